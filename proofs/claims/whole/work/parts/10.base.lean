/-! pure rows for the runs -/
theorem am_cats_nil : am_cats [] = 0 := rfl
theorem am_cats_i (x : Int32) (st : List Value) : am_cats (.int x :: st) = 1 + am_cats st := rfl
theorem am_cats_r (x : Nat) (st : List Value) : am_cats (.ref x :: st) = 1 + am_cats st := rfl
theorem am_cats_l (x : Int64) (st : List Value) : am_cats (.long x :: st) = 2 + am_cats st := rfl
theorem ni_le {a b : Nat} (ha : a < 2147483648) (hb : b < 2147483648) : (nI a ≤ nI b) = (a ≤ b) := propext (nI_leI ha hb)
theorem ni_lt {a b : Nat} (ha : a < 2147483648) (hb : b < 2147483648) : (nI a < nI b) = (a < b) := propext (nI_ltI ha hb)
theorem ni_eq {a b : Nat} (ha : a < 2147483648) (hb : b < 2147483648) : (nI a = nI b) = (a = b) := propext (nI_eq ha hb)
theorem ni_neg {a : Nat} (ha : a < 2147483648) : (nI a < 0) = False := eq_false (nI_pos ha)
theorem ni_ge0 {a : Nat} (ha : a < 2147483648) : ((0 : Int32) ≤ nI a) = True := eq_true (nI_pos' ha)
/-- how many of the first n are such -/
def cnt (P : Nat → Bool) : Nat → Nat
  | 0 => 0
  | n + 1 => cnt P n + (if P n = true then 1 else 0)
theorem cnt_s (P : Nat → Bool) (n : Nat) : cnt P (n + 1) = cnt P n + (if P n = true then 1 else 0) := rfl
theorem cnt_le (P : Nat → Bool) (n : Nat) : cnt P n ≤ n := by
  induction n with
  | zero => exact Nat.le_refl 0
  | succ n ih => unfold cnt; split <;> omega
theorem cnt_mono (P : Nat → Bool) {i n : Nat} (h : i ≤ n) : cnt P i ≤ cnt P n := by
  induction h with
  | refl => exact Nat.le_refl _
  | step _ ih => rw [cnt_s]; omega
/-- the first one from i on, of k -/
def ff (P : Nat → Bool) : Nat → Nat → Int32
  | 0, _ => -1
  | k + 1, i => if P i = true then nI i else ff P k (i + 1)
