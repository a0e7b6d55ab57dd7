/-! OtherName$Folk: reads, on -/
theorem ni_m12 (a : Nat) : nI a * 12 = nI (a * 12) := pk_mul a 12
def isF (f g : Int32) : Int32 := if f < 0 then 1 else if 0 ≤ g then 0 else 1
theorem c_isFounder {d i : Nat} {σ : am_St} {τ : Int64} (hi : i < 12) : am_call d 8 [.ref 4, .int (nI i)] σ τ = some (some (.int (isF (σ 7 i) (σ 8 i))), σ, τ) := by
  show am_run d 8 0 [.ref 4, .int (nI i)] [] σ τ = _
  simp (disch := first | assumption | omega | rfl | exact Nat.le_of_ble_eq_true rfl | decide) only [r8_0, r8_1, r8_4, r8_5, r8_6, r8_9, r8_10, r8_13, r8_14, r8_15, r8_18, r8_19, r8_22, r8_23, am_gf_4_3, am_gf_4_4, am_ai_7, am_ai_8, am_nl_i, am_nl_r, am_nl_n, am_nl_l, Option.bind_some, Option.toList_some, Option.toList_none, List.cons_append, List.nil_append, if_true, if_false, Bool.false_eq_true, Int.reduceEq, Int.reduceAdd, ↓reduceIte, isF]
  split
  · rfl
  · split <;> rfl
theorem c_isOfSex {d n : Nat} {σ : am_St} {τ : Int64} {x w : Int32} (hn : σ 4 0 = nI n) (h12 : n ≤ 12) : am_call (d + 1) 7 [.ref 4, .int x, .int w] σ τ = some (some (.int (if x < 0 then 0 else if nI n ≤ x then 0 else if σ 6 x.toNatClampNeg = w then 1 else 0)), σ, τ) := by
  show am_run (d + 1) 7 0 [.ref 4, .int x, .int w] [] σ τ = _
  by_cases h1 : x < 0
  · simp (disch := first | assumption | omega | rfl | exact Nat.le_of_ble_eq_true rfl | decide) only [r7_0, r7_1, r7_2, r7_5, r7_8, r7_9, r7_12, r7_13, r7_14, r7_15, r7_18, r7_19, r7_22, r7_23, am_gf_4_2, am_ai_6, am_nl_i, am_nl_r, am_nl_n, am_nl_l, Option.bind_some, Option.toList_some, Option.toList_none, List.cons_append, List.nil_append, if_true, if_false, Bool.false_eq_true, Int.reduceEq, Int.reduceAdd, ↓reduceIte, c_has hn, h1, if_true, if_false]
  · by_cases h2 : nI n ≤ x
    · simp (disch := first | assumption | omega | rfl | exact Nat.le_of_ble_eq_true rfl | decide) only [r7_0, r7_1, r7_2, r7_5, r7_8, r7_9, r7_12, r7_13, r7_14, r7_15, r7_18, r7_19, r7_22, r7_23, am_gf_4_2, am_ai_6, am_nl_i, am_nl_r, am_nl_n, am_nl_l, Option.bind_some, Option.toList_some, Option.toList_none, List.cons_append, List.nil_append, if_true, if_false, Bool.false_eq_true, Int.reduceEq, Int.reduceAdd, ↓reduceIte, c_has hn, h1, h2, if_true, if_false]
    · obtain ⟨j, hj, rfl⟩ := nI_of h1
      have hj2 : j < n := by
        rw [ni_le (by omega) (by omega)] at h2; omega
      have e10 : ¬ (1 : Int32) = 0 := by decide
      simp (disch := first | assumption | omega | rfl | exact Nat.le_of_ble_eq_true rfl | decide) only [r7_0, r7_1, r7_2, r7_5, r7_8, r7_9, r7_12, r7_13, r7_14, r7_15, r7_18, r7_19, r7_22, r7_23, am_gf_4_2, am_ai_6, am_nl_i, am_nl_r, am_nl_n, am_nl_l, Option.bind_some, Option.toList_some, Option.toList_none, List.cons_append, List.nil_append, if_true, if_false, Bool.false_eq_true, Int.reduceEq, Int.reduceAdd, ↓reduceIte, c_has hn, h1, h2, e10, if_true, if_false, nI_clamp]
      by_cases h3 : σ 6 j = w <;> simp [h3]
theorem c_fitsAsFather {d n : Nat} {σ : am_St} {τ : Int64} {x : Int32} (hn : σ 4 0 = nI n) (h12 : n ≤ 12) : am_call (d + 2) 9 [.ref 4, .int x] σ τ = some (some (.int (if x = -2 then (if ff (fun j => decide (σ 6 j = 0)) n 0 = -1 then 0 else 1) else if x < 0 then 0 else if nI n ≤ x then 0 else if σ 6 x.toNatClampNeg = 0 then 1 else 0)), σ, τ) := by
  show am_run (d + 2) 9 0 [.ref 4, .int x] [] σ τ = _
  by_cases h1 : x = -2
  · subst h1
    simp (disch := first | assumption | omega | rfl | exact Nat.le_of_ble_eq_true rfl | decide) only [r9_0, r9_1, r9_3, r9_6, r9_7, r9_10, r9_11, r9_14, r9_15, r9_18, r9_19, r9_22, r9_23, r9_24, r9_25, r9_28, am_nl_i, am_nl_r, am_nl_n, am_nl_l, Option.bind_some, Option.toList_some, Option.toList_none, List.cons_append, List.nil_append, if_true, if_false, Bool.false_eq_true, Int.reduceEq, Int.reduceAdd, ↓reduceIte, c_leastMan hn h12, if_true]
    by_cases h2 : ff (fun j => decide (σ 6 j = 0)) n 0 = -1
    · simp only [h2, if_true]
    · simp only [h2, if_false]
  · have hz : (if x < 0 then (0 : Int32) else if nI n ≤ x then 0 else if σ 6 x.toNatClampNeg = 0 then 1 else 0) = 0 ∨ (if x < 0 then (0 : Int32) else if nI n ≤ x then 0 else if σ 6 x.toNatClampNeg = 0 then 1 else 0) = 1 := by
      repeat' split
      all_goals simp
    simp (disch := first | assumption | omega | rfl | exact Nat.le_of_ble_eq_true rfl | decide) only [r9_0, r9_1, r9_3, r9_6, r9_7, r9_10, r9_11, r9_14, r9_15, r9_18, r9_19, r9_22, r9_23, r9_24, r9_25, r9_28, am_nl_i, am_nl_r, am_nl_n, am_nl_l, Option.bind_some, Option.toList_some, Option.toList_none, List.cons_append, List.nil_append, if_true, if_false, Bool.false_eq_true, Int.reduceEq, Int.reduceAdd, ↓reduceIte, c_isOfSex hn h12, h1, if_false]
theorem c_living_loop {d n : Nat} {σ : am_St} {τ : Int64} (hn : σ 4 0 = nI n) (h12 : n ≤ 12) : ∀ k i, i + k = n → am_run d 12 4 [.ref 4, .int (nI (cnt (fun j => !decide (σ 13 j = 0)) i)), .int (nI i)] [] σ τ = some (some (.int (nI (cnt (fun j => !decide (σ 13 j = 0)) n))), σ, τ) := by
  intro k
  induction k with
  | zero =>
    intro i hi
    have e : i = n := by omega
    subst e
    rw [r12_4]
    simp (disch := first | assumption | omega | rfl | exact Nat.le_of_ble_eq_true rfl | decide) only [r12_0, r12_1, r12_2, r12_3, r12_5, r12_6, r12_9, r12_12, r12_13, r12_14, r12_17, r12_18, r12_19, r12_22, r12_23, r12_26, r12_27, r12_28, r12_29, r12_32, r12_35, r12_36, am_gf_4_0, am_gf_4_9, am_ai_13, am_nl_i, am_nl_r, am_nl_n, am_nl_l, Option.bind_some, Option.toList_some, Option.toList_none, List.cons_append, List.nil_append, if_true, if_false, Bool.false_eq_true, Int.reduceEq, Int.reduceAdd, ↓reduceIte, hn, ni_le, Nat.le_refl, if_true]
  | succ k ih =>
    intro i hi
    have hc : ¬ n ≤ i := by omega
    rw [← ih (i + 1) (by omega), r12_4]
    simp (disch := first | assumption | omega | rfl | exact Nat.le_of_ble_eq_true rfl | decide) only [r12_0, r12_1, r12_2, r12_3, r12_5, r12_6, r12_9, r12_12, r12_13, r12_14, r12_17, r12_18, r12_19, r12_22, r12_23, r12_26, r12_27, r12_28, r12_29, r12_32, r12_35, r12_36, am_gf_4_0, am_gf_4_9, am_ai_13, am_nl_i, am_nl_r, am_nl_n, am_nl_l, Option.bind_some, Option.toList_some, Option.toList_none, List.cons_append, List.nil_append, if_true, if_false, Bool.false_eq_true, Int.reduceEq, Int.reduceAdd, ↓reduceIte, hn, ni_le, hc, if_false, nI_1, cnt]
    by_cases h : σ 13 i = 0 <;> simp [h, nI_1]
theorem c_living {d n : Nat} {σ : am_St} {τ : Int64} (hn : σ 4 0 = nI n) (h12 : n ≤ 12) : am_call d 12 [.ref 4] σ τ = some (some (.int (nI (cnt (fun j => !decide (σ 13 j = 0)) n))), σ, τ) := by
  show am_run d 12 0 [.ref 4, .null, .null] [] σ τ = _
  simp (disch := first | assumption | omega | rfl | exact Nat.le_of_ble_eq_true rfl | decide) only [r12_0, r12_1, r12_2, r12_3, r12_5, r12_6, r12_9, r12_12, r12_13, r12_14, r12_17, r12_18, r12_19, r12_22, r12_23, r12_26, r12_27, r12_28, r12_29, r12_32, r12_35, r12_36, am_gf_4_0, am_gf_4_9, am_ai_13, am_nl_i, am_nl_r, am_nl_n, am_nl_l, Option.bind_some, Option.toList_some, Option.toList_none, List.cons_append, List.nil_append, if_true, if_false, Bool.false_eq_true, Int.reduceEq, Int.reduceAdd, ↓reduceIte]
  exact c_living_loop hn h12 n 0 (by omega)
theorem c_entries_loop {d n : Nat} {σ : am_St} {τ : Int64} (hn : σ 4 0 = nI n) (h12 : n ≤ 12) : ∀ k i, i + k = n → am_run d 13 4 [.ref 4, .int (nI (cnt (fun j => !decide (σ 12 j = -1)) i)), .int (nI i)] [] σ τ = some (some (.int (nI (cnt (fun j => !decide (σ 12 j = -1)) n))), σ, τ) := by
  intro k
  induction k with
  | zero =>
    intro i hi
    have e : i = n := by omega
    subst e
    rw [r13_4]
    simp (disch := first | assumption | omega | rfl | exact Nat.le_of_ble_eq_true rfl | decide) only [r13_0, r13_1, r13_2, r13_3, r13_5, r13_6, r13_9, r13_12, r13_13, r13_14, r13_17, r13_18, r13_19, r13_20, r13_23, r13_24, r13_27, r13_28, r13_29, r13_30, r13_33, r13_36, r13_37, am_gf_4_0, am_gf_4_8, am_ai_12, am_nl_i, am_nl_r, am_nl_n, am_nl_l, Option.bind_some, Option.toList_some, Option.toList_none, List.cons_append, List.nil_append, if_true, if_false, Bool.false_eq_true, Int.reduceEq, Int.reduceAdd, ↓reduceIte, hn, ni_le, Nat.le_refl, if_true]
  | succ k ih =>
    intro i hi
    have hc : ¬ n ≤ i := by omega
    rw [← ih (i + 1) (by omega), r13_4]
    simp (disch := first | assumption | omega | rfl | exact Nat.le_of_ble_eq_true rfl | decide) only [r13_0, r13_1, r13_2, r13_3, r13_5, r13_6, r13_9, r13_12, r13_13, r13_14, r13_17, r13_18, r13_19, r13_20, r13_23, r13_24, r13_27, r13_28, r13_29, r13_30, r13_33, r13_36, r13_37, am_gf_4_0, am_gf_4_8, am_ai_12, am_nl_i, am_nl_r, am_nl_n, am_nl_l, Option.bind_some, Option.toList_some, Option.toList_none, List.cons_append, List.nil_append, if_true, if_false, Bool.false_eq_true, Int.reduceEq, Int.reduceAdd, ↓reduceIte, hn, ni_le, hc, if_false, nI_1, cnt]
    by_cases h : σ 12 i = -1 <;> simp [h, nI_1]
theorem c_entries {d n : Nat} {σ : am_St} {τ : Int64} (hn : σ 4 0 = nI n) (h12 : n ≤ 12) : am_call d 13 [.ref 4] σ τ = some (some (.int (nI (cnt (fun j => !decide (σ 12 j = -1)) n))), σ, τ) := by
  show am_run d 13 0 [.ref 4, .null, .null] [] σ τ = _
  simp (disch := first | assumption | omega | rfl | exact Nat.le_of_ble_eq_true rfl | decide) only [r13_0, r13_1, r13_2, r13_3, r13_5, r13_6, r13_9, r13_12, r13_13, r13_14, r13_17, r13_18, r13_19, r13_20, r13_23, r13_24, r13_27, r13_28, r13_29, r13_30, r13_33, r13_36, r13_37, am_gf_4_0, am_gf_4_8, am_ai_12, am_nl_i, am_nl_r, am_nl_n, am_nl_l, Option.bind_some, Option.toList_some, Option.toList_none, List.cons_append, List.nil_append, if_true, if_false, Bool.false_eq_true, Int.reduceEq, Int.reduceAdd, ↓reduceIte]
  exact c_entries_loop hn h12 n 0 (by omega)
theorem c_founders_loop {d n : Nat} {σ : am_St} {τ : Int64} (hn : σ 4 0 = nI n) (h12 : n ≤ 12) : ∀ k i, i + k = n → am_run (d + 1) 14 4 [.ref 4, .int (nI (cnt (fun j => !decide (isF (σ 7 j) (σ 8 j) = 0)) i)), .int (nI i)] [] σ τ = some (some (.int (nI (cnt (fun j => !decide (isF (σ 7 j) (σ 8 j) = 0)) n))), σ, τ) := by
  intro k
  induction k with
  | zero =>
    intro i hi
    have e : i = n := by omega
    subst e
    rw [r14_4]
    simp (disch := first | assumption | omega | rfl | exact Nat.le_of_ble_eq_true rfl | decide) only [r14_0, r14_1, r14_2, r14_3, r14_5, r14_6, r14_9, r14_12, r14_13, r14_14, r14_15, r14_18, r14_21, r14_22, r14_25, r14_26, r14_27, r14_28, r14_31, r14_34, r14_35, am_gf_4_0, am_nl_i, am_nl_r, am_nl_n, am_nl_l, Option.bind_some, Option.toList_some, Option.toList_none, List.cons_append, List.nil_append, if_true, if_false, Bool.false_eq_true, Int.reduceEq, Int.reduceAdd, ↓reduceIte, hn, ni_le, Nat.le_refl, if_true]
  | succ k ih =>
    intro i hi
    have hc : ¬ n ≤ i := by omega
    rw [← ih (i + 1) (by omega), r14_4]
    simp (disch := first | assumption | omega | rfl | exact Nat.le_of_ble_eq_true rfl | decide) only [r14_0, r14_1, r14_2, r14_3, r14_5, r14_6, r14_9, r14_12, r14_13, r14_14, r14_15, r14_18, r14_21, r14_22, r14_25, r14_26, r14_27, r14_28, r14_31, r14_34, r14_35, am_gf_4_0, am_nl_i, am_nl_r, am_nl_n, am_nl_l, Option.bind_some, Option.toList_some, Option.toList_none, List.cons_append, List.nil_append, if_true, if_false, Bool.false_eq_true, Int.reduceEq, Int.reduceAdd, ↓reduceIte, hn, ni_le, hc, if_false, nI_1, cnt, c_isFounder (show i < 12 by omega)]
    by_cases h : isF (σ 7 i) (σ 8 i) = 0 <;> simp [h, nI_1]
theorem c_founders {d n : Nat} {σ : am_St} {τ : Int64} (hn : σ 4 0 = nI n) (h12 : n ≤ 12) : am_call (d + 1) 14 [.ref 4] σ τ = some (some (.int (nI (cnt (fun j => !decide (isF (σ 7 j) (σ 8 j) = 0)) n))), σ, τ) := by
  show am_run (d + 1) 14 0 [.ref 4, .null, .null] [] σ τ = _
  simp (disch := first | assumption | omega | rfl | exact Nat.le_of_ble_eq_true rfl | decide) only [r14_0, r14_1, r14_2, r14_3, r14_5, r14_6, r14_9, r14_12, r14_13, r14_14, r14_15, r14_18, r14_21, r14_22, r14_25, r14_26, r14_27, r14_28, r14_31, r14_34, r14_35, am_gf_4_0, am_nl_i, am_nl_r, am_nl_n, am_nl_l, Option.bind_some, Option.toList_some, Option.toList_none, List.cons_append, List.nil_append, if_true, if_false, Bool.false_eq_true, Int.reduceEq, Int.reduceAdd, ↓reduceIte]
  exact c_founders_loop hn h12 n 0 (by omega)
theorem c_steps {d a b : Nat} {σ : am_St} {τ : Int64} (ha : a < 12) (hb : b < 12) : am_call d 16 [.ref 4, .int (nI a), .int (nI b)] σ τ = some (some (.int (σ 14 (a * 12 + b))), σ, τ) := by
  show am_run d 16 0 [.ref 4, .int (nI a), .int (nI b)] [] σ τ = _
  have h : a * 12 + b < 144 := by omega
  simp (disch := first | assumption | omega | rfl | exact Nat.le_of_ble_eq_true rfl | decide) only [r16_0, r16_1, r16_4, r16_5, r16_7, r16_8, r16_9, r16_10, r16_11, am_gf_4_10, am_ai_14, am_nl_i, am_nl_r, am_nl_n, am_nl_l, Option.bind_some, Option.toList_some, Option.toList_none, List.cons_append, List.nil_append, if_true, if_false, Bool.false_eq_true, Int.reduceEq, Int.reduceAdd, ↓reduceIte, ni_m12, nI_add]
def oneM (x y : Int32) : Int32 := if x = -1 then (if y = -1 then -1 else y + 1) else if y = -1 then x + 1 else (if y < x then y else x) + 1
theorem c_oneMore {d : Nat} {σ : am_St} {τ : Int64} {x y : Int32} : am_call d 17 [.int x, .int y] σ τ = some (some (.int (oneM x y)), σ, τ) := by
  show am_run d 17 0 [.int x, .int y] [] σ τ = _
  by_cases h1 : x = -1
  · by_cases h2 : y = -1
    · simp (disch := first | assumption | omega | rfl | exact Nat.le_of_ble_eq_true rfl | decide) only [r17_0, r17_1, r17_2, r17_5, r17_6, r17_7, r17_10, r17_11, r17_14, r17_15, r17_16, r17_17, r17_18, r17_19, r17_20, r17_23, r17_24, r17_25, r17_26, r17_29, r17_30, r17_31, r17_34, r17_35, r17_36, am_nl_i, am_nl_r, am_nl_n, am_nl_l, Option.bind_some, Option.toList_some, Option.toList_none, List.cons_append, List.nil_append, if_true, if_false, Bool.false_eq_true, Int.reduceEq, Int.reduceAdd, ↓reduceIte, h1, h2, if_true, oneM]
    · simp (disch := first | assumption | omega | rfl | exact Nat.le_of_ble_eq_true rfl | decide) only [r17_0, r17_1, r17_2, r17_5, r17_6, r17_7, r17_10, r17_11, r17_14, r17_15, r17_16, r17_17, r17_18, r17_19, r17_20, r17_23, r17_24, r17_25, r17_26, r17_29, r17_30, r17_31, r17_34, r17_35, r17_36, am_nl_i, am_nl_r, am_nl_n, am_nl_l, Option.bind_some, Option.toList_some, Option.toList_none, List.cons_append, List.nil_append, if_true, if_false, Bool.false_eq_true, Int.reduceEq, Int.reduceAdd, ↓reduceIte, h1, h2, if_true, if_false, oneM]
  · by_cases h2 : y = -1
    · simp (disch := first | assumption | omega | rfl | exact Nat.le_of_ble_eq_true rfl | decide) only [r17_0, r17_1, r17_2, r17_5, r17_6, r17_7, r17_10, r17_11, r17_14, r17_15, r17_16, r17_17, r17_18, r17_19, r17_20, r17_23, r17_24, r17_25, r17_26, r17_29, r17_30, r17_31, r17_34, r17_35, r17_36, am_nl_i, am_nl_r, am_nl_n, am_nl_l, Option.bind_some, Option.toList_some, Option.toList_none, List.cons_append, List.nil_append, if_true, if_false, Bool.false_eq_true, Int.reduceEq, Int.reduceAdd, ↓reduceIte, h1, h2, if_true, if_false, oneM]
    · simp (disch := first | assumption | omega | rfl | exact Nat.le_of_ble_eq_true rfl | decide) only [r17_0, r17_1, r17_2, r17_5, r17_6, r17_7, r17_10, r17_11, r17_14, r17_15, r17_16, r17_17, r17_18, r17_19, r17_20, r17_23, r17_24, r17_25, r17_26, r17_29, r17_30, r17_31, r17_34, r17_35, r17_36, am_nl_i, am_nl_r, am_nl_n, am_nl_l, Option.bind_some, Option.toList_some, Option.toList_none, List.cons_append, List.nil_append, if_true, if_false, Bool.false_eq_true, Int.reduceEq, Int.reduceAdd, ↓reduceIte, h1, h2, if_true, if_false, oneM]
/-- the least of sums, of the first k -/
def dstF (u v : Nat → Int32) : Nat → Int32
  | 0 => -1
  | j + 1 => if ¬ u j = -1 ∧ ¬ v j = -1 ∧ (dstF u v j = -1 ∨ u j + v j < dstF u v j) then u j + v j else dstF u v j
theorem c_distance_loop {d n a b : Nat} {σ : am_St} {τ : Int64} (hn : σ 4 0 = nI n) (h12 : n ≤ 12) (ha : a < 12) (hb : b < 12) : ∀ k i (v5 v6 : Value), i + k = n → am_nl v5 = v5 → am_run (d + 1) 18 5 [.ref 4, .int (nI a), .int (nI b), .int (dstF (fun j => σ 14 (a * 12 + j)) (fun j => σ 14 (b * 12 + j)) i), .int (nI i), v5, v6] [] σ τ = some (some (.int (dstF (fun j => σ 14 (a * 12 + j)) (fun j => σ 14 (b * 12 + j)) n)), σ, τ) := by
  intro k
  induction k with
  | zero =>
    intro i v5 v6 hi hv
    have e : i = n := by omega
    subst e
    rw [r18_5]
    simp (disch := first | assumption | omega | rfl | exact Nat.le_of_ble_eq_true rfl | decide) only [r18_0, r18_1, r18_2, r18_3, r18_7, r18_8, r18_11, r18_14, r18_15, r18_16, r18_18, r18_21, r18_23, r18_24, r18_25, r18_27, r18_30, r18_32, r18_34, r18_35, r18_38, r18_40, r18_41, r18_44, r18_45, r18_46, r18_49, r18_51, r18_53, r18_54, r18_55, r18_58, r18_60, r18_62, r18_63, r18_64, r18_67, r18_70, r18_71, am_gf_4_0, am_nl_i, am_nl_r, am_nl_n, am_nl_l, Option.bind_some, Option.toList_some, Option.toList_none, List.cons_append, List.nil_append, if_true, if_false, Bool.false_eq_true, Int.reduceEq, Int.reduceAdd, ↓reduceIte, hn, ni_le, Nat.le_refl, if_true]
  | succ k ih =>
    intro i v5 v6 hi hv
    have hc : ¬ n ≤ i := by omega
    have hx : i < 12 := by omega
    rw [← ih (i + 1) (.int (σ 14 (a * 12 + i))) (.int (σ 14 (b * 12 + i))) (by omega) rfl, r18_5]
    simp (disch := first | assumption | omega | rfl | exact Nat.le_of_ble_eq_true rfl | decide) only [r18_0, r18_1, r18_2, r18_3, r18_7, r18_8, r18_11, r18_14, r18_15, r18_16, r18_18, r18_21, r18_23, r18_24, r18_25, r18_27, r18_30, r18_32, r18_34, r18_35, r18_38, r18_40, r18_41, r18_44, r18_45, r18_46, r18_49, r18_51, r18_53, r18_54, r18_55, r18_58, r18_60, r18_62, r18_63, r18_64, r18_67, r18_70, r18_71, am_gf_4_0, am_nl_i, am_nl_r, am_nl_n, am_nl_l, Option.bind_some, Option.toList_some, Option.toList_none, List.cons_append, List.nil_append, if_true, if_false, Bool.false_eq_true, Int.reduceEq, Int.reduceAdd, ↓reduceIte, hn, ni_le, hc, if_false, nI_1, dstF, c_steps ha hx, c_steps hb hx, hv]
    generalize dstF (fun j => σ 14 (a * 12 + j)) (fun j => σ 14 (b * 12 + j)) i = L
    generalize σ 14 (a * 12 + i) = x
    generalize σ 14 (b * 12 + i) = y
    by_cases h1 : x = -1
    · simp [h1]
    · by_cases h2 : y = -1
      · simp [h1, h2]
      · by_cases h3 : L = -1
        · simp [h1, h2, h3]
        · by_cases h4 : L ≤ x + y
          · have h5 : ¬ x + y < L := Int32.not_lt.mpr h4
            simp [h1, h2, h3, h4, h5]
          · have h5 : x + y < L := Int32.not_le.mp h4
            simp [h1, h2, h3, h4, h5]
theorem c_distance {d n a b : Nat} {σ : am_St} {τ : Int64} (hn : σ 4 0 = nI n) (h12 : n ≤ 12) (ha : a < 12) (hb : b < 12) : am_call (d + 1) 18 [.ref 4, .int (nI a), .int (nI b)] σ τ = some (some (.int (dstF (fun j => σ 14 (a * 12 + j)) (fun j => σ 14 (b * 12 + j)) n)), σ, τ) := by
  show am_run (d + 1) 18 0 [.ref 4, .int (nI a), .int (nI b), .null, .null, .null, .null] [] σ τ = _
  simp (disch := first | assumption | omega | rfl | exact Nat.le_of_ble_eq_true rfl | decide) only [r18_0, r18_1, r18_2, r18_3, r18_7, r18_8, r18_11, r18_14, r18_15, r18_16, r18_18, r18_21, r18_23, r18_24, r18_25, r18_27, r18_30, r18_32, r18_34, r18_35, r18_38, r18_40, r18_41, r18_44, r18_45, r18_46, r18_49, r18_51, r18_53, r18_54, r18_55, r18_58, r18_60, r18_62, r18_63, r18_64, r18_67, r18_70, r18_71, am_gf_4_0, am_nl_i, am_nl_r, am_nl_n, am_nl_l, Option.bind_some, Option.toList_some, Option.toList_none, List.cons_append, List.nil_append, if_true, if_false, Bool.false_eq_true, Int.reduceEq, Int.reduceAdd, ↓reduceIte]
  exact c_distance_loop hn h12 ha hb n 0 _ _ (by omega) rfl
