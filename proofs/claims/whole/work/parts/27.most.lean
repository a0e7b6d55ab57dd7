/-! as many couples as can be: the search finds them -/
def mxF (b : Nat) (P : Nat → Bool) (G : Nat → Nat) : Nat → Nat
  | 0 => b
  | j + 1 => if P j = true then (if mxF b P G j < G j then G j else mxF b P G j) else mxF b P G j
theorem mxF_s (b : Nat) (P : Nat → Bool) (G : Nat → Nat) (j : Nat) : mxF b P G (j + 1) = if P j = true then (if mxF b P G j < G j then G j else mxF b P G j) else mxF b P G j := rfl
theorem mxF_b (b : Nat) (P : Nat → Bool) (G : Nat → Nat) (n : Nat) : b ≤ mxF b P G n := by
  induction n with
  | zero => exact Nat.le_refl b
  | succ n ih => rw [mxF_s]; split <;> (try split) <;> omega
theorem mxF_g {b : Nat} {P : Nat → Bool} {G : Nat → Nat} {n j : Nat} (hj : j < n) (hp : P j = true) : G j ≤ mxF b P G n := by
  induction n with
  | zero => omega
  | succ n ih =>
    rw [mxF_s]
    by_cases e : j = n
    · subst e; rw [if_pos hp]; split <;> omega
    · have := ih (by omega)
      split <;> (try split) <;> omega
theorem mxF_or (b : Nat) (P : Nat → Bool) (G : Nat → Nat) (n : Nat) : mxF b P G n = b ∨ ∃ j, j < n ∧ P j = true ∧ mxF b P G n = G j := by
  induction n with
  | zero => exact Or.inl rfl
  | succ n ih =>
    rw [mxF_s]
    by_cases hp : P n = true
    · rw [if_pos hp]
      split
      · exact Or.inr ⟨n, by omega, hp, rfl⟩
      · rcases ih with h | ⟨j, a, c, e⟩
        · exact Or.inl h
        · exact Or.inr ⟨j, by omega, c, e⟩
    · rw [if_neg hp]
      rcases ih with h | ⟨j, a, c, e⟩
      · exact Or.inl h
      · exact Or.inr ⟨j, by omega, c, e⟩
theorem mxF_congr {b b' : Nat} {P P' : Nat → Bool} {G G' : Nat → Nat} {n : Nat} (hb : b = b') (hP : ∀ j, j < n → P j = P' j) (hG : ∀ j, j < n → P j = true → G j = G' j) : mxF b P G n = mxF b' P' G' n := by
  induction n with
  | zero => exact hb
  | succ n ih =>
    rw [mxF_s, mxF_s, ih (fun j hj => hP j (by omega)) (fun j hj => hG j (by omega)), ← hP n (by omega)]
    by_cases hp : P n = true
    · rw [if_pos hp, if_pos hp, hG n (by omega) hp]
    · rw [if_neg hp, if_neg hp]
/-- the most couples of the men from p on, k in number, without the women of U -/
def bsF (n : Nat) (ad : Nat → Nat → Bool) : Nat → Nat → (Nat → Bool) → Nat
  | 0, _, _ => 0
  | k + 1, p, U => mxF (bsF n ad k (p + 1) U) (fun q => ad p q && !U q) (fun q => 1 + bsF n ad k (p + 1) (upB U q)) n
theorem bsF_s (n : Nat) (ad : Nat → Nat → Bool) (k p : Nat) (U : Nat → Bool) : bsF n ad (k + 1) p U = mxF (bsF n ad k (p + 1) U) (fun q => ad p q && !U q) (fun q => 1 + bsF n ad k (p + 1) (upB U q)) n := rfl
theorem bsF_congr {n : Nat} {ad ad' : Nat → Nat → Bool} (had : ∀ p, p < n → ∀ q, q < n → ad p q = ad' p q) : ∀ k p (U U' : Nat → Bool), p + k = n → (∀ q, q < n → U q = U' q) → bsF n ad k p U = bsF n ad' k p U' := by
  intro k
  induction k with
  | zero => intro p U U' _ _; rfl
  | succ k ih =>
    intro p U U' hp hU
    rw [bsF_s, bsF_s]
    refine mxF_congr (ih (p + 1) U U' (by omega) hU) (fun q hq => by rw [had p (by omega) q hq, hU q hq]) (fun q hq _ => ?_)
    rw [ih (p + 1) (upB U q) (upB U' q) (by omega) (fun w hw => by unfold upB; split <;> first | rfl | exact hU w hw)]
theorem bsF_le {n : Nat} {ad : Nat → Nat → Bool} : ∀ k p (U : Nat → Bool), bsF n ad k p U ≤ k := by
  intro k
  induction k with
  | zero => intro p U; exact Nat.le_refl 0
  | succ k ih =>
    intro p U
    rw [bsF_s]
    rcases mxF_or (bsF n ad k (p + 1) U) (fun q => ad p q && !U q) (fun q => 1 + bsF n ad k (p + 1) (upB U q)) n with h | ⟨j, a, c, e⟩
    · rw [h]; have := ih (p + 1) U; omega
    · rw [e]; have := ih (p + 1) (upB U j); omega
/-- a way to wed: whom each man weds -/
def MT (n : Nat) (ad : Nat → Nat → Bool) (p : Nat) (U : Nat → Bool) (N : Nat → Option Nat) : Prop := (∀ m w, p ≤ m → m < n → N m = some w → w < n ∧ ad m w = true ∧ U w = false) ∧ ∀ m1 m2 w, p ≤ m1 → m1 < n → p ≤ m2 → m2 < n → N m1 = some w → N m2 = some w → m1 = m2
def szF (N : Nat → Option Nat) : Nat → Nat → Nat
  | 0, _ => 0
  | k + 1, p => (if (N p).isSome = true then 1 else 0) + szF N k (p + 1)
theorem bs_ub {n : Nat} {ad : Nat → Nat → Bool} {N : Nat → Option Nat} : ∀ k p U, p + k = n → MT n ad p U N → szF N k p ≤ bsF n ad k p U := by
  intro k
  induction k with
  | zero => intro p U _ _; exact Nat.le_refl 0
  | succ k ih =>
    intro p U hp hM
    rw [bsF_s]
    show (if (N p).isSome = true then 1 else 0) + szF N k (p + 1) ≤ _
    cases hN : N p with
    | none =>
      have h1 := ih (p + 1) U (by omega) ⟨fun m w a => hM.1 m w (by omega), fun m1 m2 w a b c => hM.2 m1 m2 w (by omega) b (by omega)⟩
      have h2 := mxF_b (bsF n ad k (p + 1) U) (fun q => ad p q && !U q) (fun q => 1 + bsF n ad k (p + 1) (upB U q)) n
      simp only [Option.isSome_none, Bool.false_eq_true, if_false]
      omega
    | some w =>
      obtain ⟨hw, haw, hUw⟩ := hM.1 p w (Nat.le_refl p) (by omega) hN
      have h1 := ih (p + 1) (upB U w) (by omega) ⟨fun m x a b c => by
        obtain ⟨d1, d2, d3⟩ := hM.1 m x (by omega) b c
        refine ⟨d1, d2, ?_⟩
        rw [upB_n (by intro e; subst e; have := hM.2 m p x (by omega) b (Nat.le_refl p) (by omega) c hN; omega)]
        exact d3, fun m1 m2 w a b c => hM.2 m1 m2 w (by omega) b (by omega)⟩
      have h2 := mxF_g (b := bsF n ad k (p + 1) U) (P := fun q => ad p q && !U q) (G := fun q => 1 + bsF n ad k (p + 1) (upB U q)) hw (by simp [haw, hUw])
      simp only [Option.isSome_some, if_true]
      omega
theorem szF_congr {N N' : Nat → Option Nat} : ∀ k p, (∀ m, p ≤ m → N m = N' m) → szF N k p = szF N' k p := by
  intro k
  induction k with
  | zero => intro p _; rfl
  | succ k ih =>
    intro p h
    show (if (N p).isSome = true then 1 else 0) + szF N k (p + 1) = (if (N' p).isSome = true then 1 else 0) + szF N' k (p + 1)
    rw [h p (Nat.le_refl p), ih (p + 1) (fun m hm => h m (by omega))]
theorem bs_ex {n : Nat} {ad : Nat → Nat → Bool} : ∀ k p U, p + k = n → ∃ N, MT n ad p U N ∧ szF N k p = bsF n ad k p U := by
  intro k
  induction k with
  | zero => intro p U hp; exact ⟨fun _ => none, ⟨fun m w a b c => (by cases c), fun m1 m2 w a b c d e => (by cases e)⟩, rfl⟩
  | succ k ih =>
    intro p U hp
    rw [bsF_s]
    rcases mxF_or (bsF n ad k (p + 1) U) (fun q => ad p q && !U q) (fun q => 1 + bsF n ad k (p + 1) (upB U q)) n with h | ⟨w, hw, hc, e⟩
    · obtain ⟨N, hM, hs⟩ := ih (p + 1) U (by omega)
      refine ⟨fun m => if m = p then none else N m, ⟨fun m w a b c => ?_, fun m1 m2 w a b c d e1 e2 => ?_⟩, ?_⟩
      · dsimp only at c
        split at c
        · cases c
        · exact hM.1 m w (by omega) b c
      · dsimp only at e1 e2
        split at e1
        · cases e1
        · split at e2
          · cases e2
          · exact hM.2 m1 m2 w (by omega) b (by omega) d e1 e2
      · show (if ((if p = p then none else N p) : Option Nat).isSome = true then 1 else 0) + szF (fun m => if m = p then none else N m) k (p + 1) = _
        rw [h, ← hs, szF_congr (N' := N) k (p + 1) (fun m hm => by rw [if_neg (by omega)])]
        simp
    · obtain ⟨N, hM, hs⟩ := ih (p + 1) (upB U w) (by omega)
      simp only [Bool.and_eq_true, Bool.not_eq_true'] at hc
      refine ⟨fun m => if m = p then some w else N m, ⟨fun m x a b c => ?_, fun m1 m2 x a b c d e1 e2 => ?_⟩, ?_⟩
      · dsimp only at c
        split at c
        · cases c; rename_i e; subst e; exact ⟨hw, hc.1, hc.2⟩
        · obtain ⟨d1, d2, d3⟩ := hM.1 m x (by omega) b c
          refine ⟨d1, d2, ?_⟩
          cases hu : U x with
          | false => rfl
          | true => rw [upB_t hu] at d3; cases d3
      · dsimp only at e1 e2
        have notw : ∀ m, p + 1 ≤ m → m < n → N m ≠ some w := fun m a b c => by
          obtain ⟨-, -, d3⟩ := hM.1 m w a b c
          rw [upB_s] at d3; cases d3
        split at e1
        · split at e2
          · omega
          · cases e1; exact absurd e2 (notw m2 (by omega) d)
        · split at e2
          · cases e2; exact absurd e1 (notw m1 (by omega) b)
          · exact hM.2 m1 m2 x (by omega) b (by omega) d e1 e2
      · show (if ((if p = p then some w else N p) : Option Nat).isSome = true then 1 else 0) + szF (fun m => if m = p then some w else N m) k (p + 1) = _
        rw [e, ← hs, szF_congr (N' := N) k (p + 1) (fun m hm => by rw [if_neg (by omega)])]
        simp
/-! counting: an injection -/
def smF (f : Nat → Nat) : Nat → Nat
  | 0 => 0
  | n + 1 => smF f n + f n
theorem smF_s (f : Nat → Nat) (n : Nat) : smF f (n + 1) = smF f n + f n := rfl
theorem smF_add (f g : Nat → Nat) (n : Nat) : smF (fun i => f i + g i) n = smF f n + smF g n := by
  induction n with
  | zero => rfl
  | succ n ih => rw [smF_s, smF_s, smF_s, ih]; omega
theorem smF_le {f g : Nat → Nat} {n : Nat} (h : ∀ i, i < n → f i ≤ g i) : smF f n ≤ smF g n := by
  induction n with
  | zero => exact Nat.le_refl 0
  | succ n ih => rw [smF_s, smF_s]; have := h n (by omega); have := ih (fun i hi => h i (by omega)); omega
theorem smF_0 (n : Nat) : smF (fun _ => 0) n = 0 := by
  induction n with
  | zero => rfl
  | succ n ih => rw [smF_s, ih]
theorem smF_swap (F : Nat → Nat → Nat) (a b : Nat) : smF (fun i => smF (fun j => F i j) b) a = smF (fun j => smF (fun i => F i j) a) b := by
  induction a with
  | zero => show 0 = smF (fun _ => 0) b; rw [smF_0]
  | succ a ih =>
    rw [smF_s, ih, ← smF_add]
    rfl
theorem smF_one {P : Nat → Bool} {n : Nat} (h : ∀ i j, i < n → j < n → P i = true → P j = true → i = j) : smF (fun i => if P i = true then 1 else 0) n ≤ 1 := by
  induction n with
  | zero => exact Nat.zero_le 1
  | succ n ih =>
    rw [smF_s]
    by_cases hp : P n = true
    · have : smF (fun i => if P i = true then 1 else 0) n = 0 := by
        have hz : ∀ k, k ≤ n → smF (fun i => if P i = true then 1 else 0) k = 0 := by
          intro k
          induction k with
          | zero => intro _; rfl
          | succ k ihk =>
            intro hk
            rw [smF_s, ihk (by omega), if_neg]
            intro q
            have := h k n (by omega) (by omega) q hp
            omega
        exact hz n (Nat.le_refl n)
      rw [this, if_pos hp]
      exact Nat.le_refl 1
    · rw [if_neg hp]
      have := ih (fun i j a b => h i j (by omega) (by omega))
      omega
theorem smF_hit {P : Nat → Bool} {n j : Nat} (hj : j < n) (hp : P j = true) : 1 ≤ smF (fun i => if P i = true then 1 else 0) n := by
  induction n with
  | zero => omega
  | succ n ih =>
    rw [smF_s]
    by_cases e : j = n
    · subst e; rw [if_pos hp]; omega
    · have := ih (by omega); omega
theorem cnt_sm (P : Nat → Bool) (n : Nat) : cnt P n = smF (fun i => if P i = true then 1 else 0) n := by
  induction n with
  | zero => rfl
  | succ n ih => rw [cnt_s, smF_s, ih]
theorem cnt_inj {P Q : Nat → Bool} {n : Nat} (φ : Nat → Nat) (h1 : ∀ i, i < n → P i = true → φ i < n ∧ Q (φ i) = true) (h2 : ∀ i j, i < n → j < n → P i = true → P j = true → φ i = φ j → i = j) : cnt P n ≤ cnt Q n := by
  rw [cnt_sm, cnt_sm]
  have a1 : smF (fun i => if P i = true then 1 else 0) n ≤ smF (fun i => smF (fun j => if (P i && decide (φ i = j)) = true then 1 else 0) n) n := by
    apply smF_le
    intro i hi
    by_cases hp : P i = true
    · rw [if_pos hp]
      obtain ⟨q1, q2⟩ := h1 i hi hp
      exact smF_hit (P := fun j => P i && decide (φ i = j)) q1 (by simp [hp])
    · rw [if_neg hp]; exact Nat.zero_le _
  refine Nat.le_trans a1 ?_
  rw [smF_swap]
  apply smF_le
  intro j hj
  by_cases hq : Q j = true
  · rw [if_pos hq]
    apply smF_one
    intro i1 i2 b1 b2 c1 c2
    simp only [Bool.and_eq_true, decide_eq_true_eq] at c1 c2
    exact h2 i1 i2 b1 b2 c1.1 c2.1 (c1.2.trans c2.2.symm)
  · rw [if_neg hq]
    have : ∀ k, k ≤ n → smF (fun i => if (P i && decide (φ i = j)) = true then 1 else 0) k = 0 := by
      intro k
      induction k with
      | zero => intro _; rfl
      | succ k ih =>
        intro hk
        rw [smF_s, ih (by omega), if_neg]
        intro q
        simp only [Bool.and_eq_true, decide_eq_true_eq] at q
        have := (h1 k (by omega) q.1).2
        rw [q.2] at this
        exact hq this
    rw [this n (Nat.le_refl n)]
    exact Nat.le_refl 0
