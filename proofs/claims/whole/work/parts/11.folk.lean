/-! OtherName$Folk: reads -/
theorem c_has {d n : Nat} {σ : am_St} {τ : Int64} {x : Int32} (hn : σ 4 0 = nI n) : am_call d 6 [.ref 4, .int x] σ τ = some (some (.int (if x < 0 then 0 else if nI n ≤ x then 0 else 1)), σ, τ) := by
  show am_run d 6 0 [.ref 4, .int x] [] σ τ = _
  simp (disch := first | assumption | omega | rfl | exact Nat.le_of_ble_eq_true rfl | decide) only [r6_0, r6_1, r6_4, r6_5, r6_6, r6_9, r6_12, r6_13, r6_16, r6_17, am_gf_4_0, am_nl_i, am_nl_r, am_nl_n, am_nl_l, Option.bind_some, Option.toList_some, Option.toList_none, List.cons_append, List.nil_append, if_true, if_false, Bool.false_eq_true, Int.reduceEq, Int.reduceAdd, ↓reduceIte, hn]
  split
  · rfl
  · split <;> rfl
theorem c_leastMan_loop {d n : Nat} {σ : am_St} {τ : Int64} (hn : σ 4 0 = nI n) (h12 : n ≤ 12) : ∀ k i, i + k = n → am_run d 10 2 [.ref 4, .int (nI i)] [] σ τ = some (some (.int (ff (fun j => decide (σ 6 j = 0)) k i)), σ, τ) := by
  intro k
  induction k with
  | zero =>
    intro i hi
    have e : i = n := by omega
    subst e
    rw [r10_2]
    simp (disch := first | assumption | omega | rfl | exact Nat.le_of_ble_eq_true rfl | decide) only [r10_0, r10_1, r10_3, r10_4, r10_7, r10_10, r10_11, r10_14, r10_15, r10_16, r10_19, r10_20, r10_21, r10_24, r10_27, r10_28, am_gf_4_0, am_gf_4_2, am_ai_6, am_nl_i, am_nl_r, am_nl_n, am_nl_l, Option.bind_some, Option.toList_some, Option.toList_none, List.cons_append, List.nil_append, if_true, if_false, Bool.false_eq_true, Int.reduceEq, Int.reduceAdd, ↓reduceIte, hn, ni_le, Nat.le_refl, if_true, ff]
  | succ k ih =>
    intro i hi
    have hc : ¬ n ≤ i := by omega
    rw [r10_2]
    simp (disch := first | assumption | omega | rfl | exact Nat.le_of_ble_eq_true rfl | decide) only [r10_0, r10_1, r10_3, r10_4, r10_7, r10_10, r10_11, r10_14, r10_15, r10_16, r10_19, r10_20, r10_21, r10_24, r10_27, r10_28, am_gf_4_0, am_gf_4_2, am_ai_6, am_nl_i, am_nl_r, am_nl_n, am_nl_l, Option.bind_some, Option.toList_some, Option.toList_none, List.cons_append, List.nil_append, if_true, if_false, Bool.false_eq_true, Int.reduceEq, Int.reduceAdd, ↓reduceIte, hn, ni_le, hc, if_false, nI_1, ff]
    rw [ih (i + 1) (by omega)]
    by_cases h : σ 6 i = 0 <;> simp [h]
theorem c_leastMan {d n : Nat} {σ : am_St} {τ : Int64} (hn : σ 4 0 = nI n) (h12 : n ≤ 12) : am_call d 10 [.ref 4] σ τ = some (some (.int (ff (fun j => decide (σ 6 j = 0)) n 0)), σ, τ) := by
  show am_run d 10 0 [.ref 4, .null] [] σ τ = _
  simp (disch := first | assumption | omega | rfl | exact Nat.le_of_ble_eq_true rfl | decide) only [r10_0, r10_1, r10_3, r10_4, r10_7, r10_10, r10_11, r10_14, r10_15, r10_16, r10_19, r10_20, r10_21, r10_24, r10_27, r10_28, am_gf_4_0, am_gf_4_2, am_ai_6, am_nl_i, am_nl_r, am_nl_n, am_nl_l, Option.bind_some, Option.toList_some, Option.toList_none, List.cons_append, List.nil_append, if_true, if_false, Bool.false_eq_true, Int.reduceEq, Int.reduceAdd, ↓reduceIte]
  exact c_leastMan_loop hn h12 n 0 (by omega)
theorem c_gaps_loop {d n : Nat} {σ : am_St} {τ : Int64} (hn : σ 4 0 = nI n) (h12 : n ≤ 12) : ∀ k i, i + k = n → am_run d 11 4 [.ref 4, .int (nI (cnt (fun j => !decide (σ 9 j = 0)) i)), .int (nI i)] [] σ τ = some (some (.int (nI (cnt (fun j => !decide (σ 9 j = 0)) n))), σ, τ) := by
  intro k
  induction k with
  | zero =>
    intro i hi
    have e : i = n := by omega
    subst e
    rw [r11_4]
    simp (disch := first | assumption | omega | rfl | exact Nat.le_of_ble_eq_true rfl | decide) only [r11_0, r11_1, r11_2, r11_3, r11_5, r11_6, r11_9, r11_12, r11_13, r11_14, r11_17, r11_18, r11_19, r11_22, r11_23, r11_26, r11_27, r11_28, r11_29, r11_32, r11_35, r11_36, am_gf_4_0, am_gf_4_5, am_ai_9, am_nl_i, am_nl_r, am_nl_n, am_nl_l, Option.bind_some, Option.toList_some, Option.toList_none, List.cons_append, List.nil_append, if_true, if_false, Bool.false_eq_true, Int.reduceEq, Int.reduceAdd, ↓reduceIte, hn, ni_le, Nat.le_refl, if_true]
  | succ k ih =>
    intro i hi
    have hc : ¬ n ≤ i := by omega
    rw [← ih (i + 1) (by omega), r11_4]
    simp (disch := first | assumption | omega | rfl | exact Nat.le_of_ble_eq_true rfl | decide) only [r11_0, r11_1, r11_2, r11_3, r11_5, r11_6, r11_9, r11_12, r11_13, r11_14, r11_17, r11_18, r11_19, r11_22, r11_23, r11_26, r11_27, r11_28, r11_29, r11_32, r11_35, r11_36, am_gf_4_0, am_gf_4_5, am_ai_9, am_nl_i, am_nl_r, am_nl_n, am_nl_l, Option.bind_some, Option.toList_some, Option.toList_none, List.cons_append, List.nil_append, if_true, if_false, Bool.false_eq_true, Int.reduceEq, Int.reduceAdd, ↓reduceIte, hn, ni_le, hc, if_false, nI_1, cnt]
    by_cases h : σ 9 i = 0 <;> simp [h, nI_1]
theorem c_gaps {d n : Nat} {σ : am_St} {τ : Int64} (hn : σ 4 0 = nI n) (h12 : n ≤ 12) : am_call d 11 [.ref 4] σ τ = some (some (.int (nI (cnt (fun j => !decide (σ 9 j = 0)) n))), σ, τ) := by
  show am_run d 11 0 [.ref 4, .null, .null] [] σ τ = _
  simp (disch := first | assumption | omega | rfl | exact Nat.le_of_ble_eq_true rfl | decide) only [r11_0, r11_1, r11_2, r11_3, r11_5, r11_6, r11_9, r11_12, r11_13, r11_14, r11_17, r11_18, r11_19, r11_22, r11_23, r11_26, r11_27, r11_28, r11_29, r11_32, r11_35, r11_36, am_gf_4_0, am_gf_4_5, am_ai_9, am_nl_i, am_nl_r, am_nl_n, am_nl_l, Option.bind_some, Option.toList_some, Option.toList_none, List.cons_append, List.nil_append, if_true, if_false, Bool.false_eq_true, Int.reduceEq, Int.reduceAdd, ↓reduceIte]
  exact c_gaps_loop hn h12 n 0 (by omega)
