/-! OtherName$Image -/
theorem vn_b {x : Int32} (h : x = 0 ∨ x = 1) : vp_nar .boolean x = x := by
  rcases h with rfl | rfl <;> decide
theorem c_keep_loop {d n : Nat} {τ : Int64} {t w a : Nat → Int32} (h12 : n ≤ 12) (hb : ∀ j, j < n → a j = 0 ∨ a j = 1) : ∀ k i (σ : am_St), i + k = n → σ 38 1 = nI n → (∀ j, j < n → σ 11 j = t j ∧ σ 12 j = w j ∧ σ 13 j = a j) → (∀ j, j < i → σ 39 j = t j ∧ σ 40 j = w j ∧ σ 41 j = a j) →
    ∃ σ' : am_St, am_run d 24 15 [.ref 38, .ref 4, .int (nI i)] [] σ τ = some (none, σ', τ) ∧ (∀ c, c ≠ 39 → c ≠ 40 → c ≠ 41 → σ' c = σ c) ∧ ∀ j, j < n → σ' 39 j = t j ∧ σ' 40 j = w j ∧ σ' 41 j = a j := by
  intro k
  induction k with
  | zero =>
    intro i σ hi hn hs hd
    have e : i = n := by omega
    subst e
    refine ⟨σ, ?_, fun _ _ _ _ => rfl, hd⟩
    rw [r24_15]
    simp (disch := first | assumption | omega | rfl | exact Nat.le_of_ble_eq_true rfl | decide) only [r24_0, r24_1, r24_2, r24_5, r24_6, r24_7, r24_10, r24_13, r24_14, r24_16, r24_17, r24_20, r24_23, r24_24, r24_27, r24_28, r24_29, r24_32, r24_33, r24_34, r24_35, r24_36, r24_39, r24_40, r24_41, r24_44, r24_45, r24_46, r24_47, r24_48, r24_51, r24_52, r24_53, r24_56, r24_57, r24_58, r24_59, r24_62, r24_65, am_gf_4_0, am_gf_4_7, am_gf_4_8, am_gf_4_9, am_gf_38_1, am_gf_38_2, am_gf_38_3, am_gf_38_4, am_pf_38_0, am_pf_38_1, am_ai_11, am_ai_12, am_ai_13, am_ai_39, am_ai_40, am_ai_41, am_nl_i, am_nl_r, am_nl_n, am_nl_l, Option.bind_some, Option.toList_some, Option.toList_none, List.cons_append, List.nil_append, if_true, if_false, Bool.false_eq_true, Int.reduceEq, Int.reduceAdd, ↓reduceIte, hn, i_rf]
  | succ k ih =>
    intro i σ hi hn hs hd
    have hc : ¬ n ≤ i := by omega
    have hi12 : i < 12 := by omega
    obtain ⟨e1, e2, e3⟩ := hs i (by omega)
    have hbb := vn_b (hb i (by omega))
    obtain ⟨σ', g1, g2, g3⟩ := ih (i + 1) (am_up (am_up (am_up σ 39 i (t i)) 40 i (w i)) 41 i (a i)) (by omega) (by simp (disch := decide) only [am_up_ne]; exact hn) (fun j hj => by simp (disch := decide) only [am_up_ne]; exact hs j hj) (fun j hj => by
      simp (disch := decide) only [am_up_ne, am_up_eq]
      by_cases h : j = i
      · subst h; simp only [pk_us]; exact ⟨trivial, trivial, trivial⟩
      · rw [pk_un h, pk_un h, pk_un h]; exact hd j (by omega))
    refine ⟨σ', ?_, fun c x y z => by rw [g2 c x y z, am_up_ne z, am_up_ne y, am_up_ne x], g3⟩
    rw [← g1, r24_15]
    simp (disch := first | assumption | omega | rfl | exact Nat.le_of_ble_eq_true rfl | decide) only [r24_0, r24_1, r24_2, r24_5, r24_6, r24_7, r24_10, r24_13, r24_14, r24_16, r24_17, r24_20, r24_23, r24_24, r24_27, r24_28, r24_29, r24_32, r24_33, r24_34, r24_35, r24_36, r24_39, r24_40, r24_41, r24_44, r24_45, r24_46, r24_47, r24_48, r24_51, r24_52, r24_53, r24_56, r24_57, r24_58, r24_59, r24_62, r24_65, am_gf_4_0, am_gf_4_7, am_gf_4_8, am_gf_4_9, am_gf_38_1, am_gf_38_2, am_gf_38_3, am_gf_38_4, am_pf_38_0, am_pf_38_1, am_ai_11, am_ai_12, am_ai_13, am_ai_39, am_ai_40, am_ai_41, am_nl_i, am_nl_r, am_nl_n, am_nl_l, Option.bind_some, Option.toList_some, Option.toList_none, List.cons_append, List.nil_append, if_true, if_false, Bool.false_eq_true, Int.reduceEq, Int.reduceAdd, ↓reduceIte, hn, ni_le, hc, am_up_ne, e1, e2, e3, hbb, nI_1]
theorem c_keep {d n : Nat} {σ : am_St} {τ : Int64} {t w a : Nat → Int32} (h12 : n ≤ 12) (hb : ∀ j, j < n → a j = 0 ∨ a j = 1) (hn : σ 4 0 = nI n) (hs : ∀ j, j < n → σ 11 j = t j ∧ σ 12 j = w j ∧ σ 13 j = a j) : ∃ σ' : am_St, am_call d 24 [.ref 38, .ref 4] σ τ = some (none, σ', τ) ∧ (∀ c, (c < 38 ∨ 41 < c) → σ' c = σ c) ∧ σ' 38 0 = 1 ∧ σ' 38 1 = nI n ∧ ∀ j, j < n → σ' 39 j = t j ∧ σ' 40 j = w j ∧ σ' 41 j = a j := by
  obtain ⟨σ', g1, g2, g3⟩ := c_keep_loop (d := d) (τ := τ) (t := t) (w := w) (a := a) h12 hb n 0 (am_up (am_up σ 38 0 1) 38 1 (nI n)) (by omega) (by rw [am_up_eq, pk_us]) (fun j hj => by simp (disch := decide) only [am_up_ne]; exact hs j hj) (fun j hj => by omega)
  refine ⟨σ', ?_, fun c hc => by rw [g2 c (by omega) (by omega) (by omega), am_up_ne (by omega), am_up_ne (by omega)], by rw [g2 38 (by decide) (by decide) (by decide), am_up_eq, pk_un (by decide), am_up_eq, pk_us], by rw [g2 38 (by decide) (by decide) (by decide), am_up_eq, pk_us], g3⟩
  show am_run d 24 0 [.ref 38, .ref 4, .null] [] σ τ = _
  have h1 : (1 : Int32) = 0 ∨ (1 : Int32) = 1 := Or.inr rfl
  simp (disch := first | assumption | omega | rfl | exact Nat.le_of_ble_eq_true rfl | decide) only [r24_0, r24_1, r24_2, r24_5, r24_6, r24_7, r24_10, r24_13, r24_14, r24_16, r24_17, r24_20, r24_23, r24_24, r24_27, r24_28, r24_29, r24_32, r24_33, r24_34, r24_35, r24_36, r24_39, r24_40, r24_41, r24_44, r24_45, r24_46, r24_47, r24_48, r24_51, r24_52, r24_53, r24_56, r24_57, r24_58, r24_59, r24_62, r24_65, am_gf_4_0, am_gf_4_7, am_gf_4_8, am_gf_4_9, am_gf_38_1, am_gf_38_2, am_gf_38_3, am_gf_38_4, am_pf_38_0, am_pf_38_1, am_ai_11, am_ai_12, am_ai_13, am_ai_39, am_ai_40, am_ai_41, am_nl_i, am_nl_r, am_nl_n, am_nl_l, Option.bind_some, Option.toList_some, Option.toList_none, List.cons_append, List.nil_append, if_true, if_false, Bool.false_eq_true, Int.reduceEq, Int.reduceAdd, ↓reduceIte, am_up_ne, hn, h1]
  exact g1
theorem c_giveBack_loop {d n : Nat} {τ : Int64} {t w a : Nat → Int32} (h12 : n ≤ 12) (hb : ∀ j, j < n → a j = 0 ∨ a j = 1) : ∀ k i (σ : am_St), i + k = n → σ 38 1 = nI n → (∀ j, j < n → σ 39 j = t j ∧ σ 40 j = w j ∧ σ 41 j = a j) → (∀ j, j < i → σ 11 j = t j ∧ σ 12 j = w j ∧ σ 13 j = a j) →
    ∃ σ' : am_St, am_run d 25 10 [.ref 38, .ref 4, .int (nI i)] [] σ τ = some (none, σ', τ) ∧ (∀ c, c ≠ 11 → c ≠ 12 → c ≠ 13 → σ' c = σ c) ∧ ∀ j, j < n → σ' 11 j = t j ∧ σ' 12 j = w j ∧ σ' 13 j = a j := by
  intro k
  induction k with
  | zero =>
    intro i σ hi hn hs hd
    have e : i = n := by omega
    subst e
    refine ⟨σ, ?_, fun _ _ _ _ => rfl, hd⟩
    rw [r25_10]
    simp (disch := first | assumption | omega | rfl | exact Nat.le_of_ble_eq_true rfl | decide) only [r25_0, r25_1, r25_2, r25_5, r25_8, r25_9, r25_11, r25_12, r25_15, r25_18, r25_19, r25_22, r25_23, r25_24, r25_27, r25_28, r25_29, r25_30, r25_31, r25_34, r25_35, r25_36, r25_39, r25_40, r25_41, r25_42, r25_43, r25_46, r25_47, r25_48, r25_51, r25_52, r25_53, r25_54, r25_57, r25_60, am_gf_4_7, am_gf_4_8, am_gf_4_9, am_gf_38_1, am_gf_38_2, am_gf_38_3, am_gf_38_4, am_pf_4_0, am_ai_11, am_ai_12, am_ai_13, am_ai_39, am_ai_40, am_ai_41, am_nl_i, am_nl_r, am_nl_n, am_nl_l, Option.bind_some, Option.toList_some, Option.toList_none, List.cons_append, List.nil_append, if_true, if_false, Bool.false_eq_true, Int.reduceEq, Int.reduceAdd, ↓reduceIte, hn, i_rf]
  | succ k ih =>
    intro i σ hi hn hs hd
    have hc : ¬ n ≤ i := by omega
    have hi12 : i < 12 := by omega
    obtain ⟨e1, e2, e3⟩ := hs i (by omega)
    have hbb := vn_b (hb i (by omega))
    obtain ⟨σ', g1, g2, g3⟩ := ih (i + 1) (am_up (am_up (am_up σ 11 i (t i)) 12 i (w i)) 13 i (a i)) (by omega) (by simp (disch := decide) only [am_up_ne]; exact hn) (fun j hj => by simp (disch := decide) only [am_up_ne]; exact hs j hj) (fun j hj => by
      simp (disch := decide) only [am_up_ne, am_up_eq]
      by_cases h : j = i
      · subst h; simp only [pk_us]; exact ⟨trivial, trivial, trivial⟩
      · rw [pk_un h, pk_un h, pk_un h]; exact hd j (by omega))
    refine ⟨σ', ?_, fun c x y z => by rw [g2 c x y z, am_up_ne z, am_up_ne y, am_up_ne x], g3⟩
    rw [← g1, r25_10]
    simp (disch := first | assumption | omega | rfl | exact Nat.le_of_ble_eq_true rfl | decide) only [r25_0, r25_1, r25_2, r25_5, r25_8, r25_9, r25_11, r25_12, r25_15, r25_18, r25_19, r25_22, r25_23, r25_24, r25_27, r25_28, r25_29, r25_30, r25_31, r25_34, r25_35, r25_36, r25_39, r25_40, r25_41, r25_42, r25_43, r25_46, r25_47, r25_48, r25_51, r25_52, r25_53, r25_54, r25_57, r25_60, am_gf_4_7, am_gf_4_8, am_gf_4_9, am_gf_38_1, am_gf_38_2, am_gf_38_3, am_gf_38_4, am_pf_4_0, am_ai_11, am_ai_12, am_ai_13, am_ai_39, am_ai_40, am_ai_41, am_nl_i, am_nl_r, am_nl_n, am_nl_l, Option.bind_some, Option.toList_some, Option.toList_none, List.cons_append, List.nil_append, if_true, if_false, Bool.false_eq_true, Int.reduceEq, Int.reduceAdd, ↓reduceIte, hn, ni_le, hc, am_up_ne, e1, e2, e3, hbb, nI_1]
theorem c_giveBack {d n : Nat} {σ : am_St} {τ : Int64} {t w a : Nat → Int32} (h12 : n ≤ 12) (hb : ∀ j, j < n → a j = 0 ∨ a j = 1) (hn : σ 38 1 = nI n) (hs : ∀ j, j < n → σ 39 j = t j ∧ σ 40 j = w j ∧ σ 41 j = a j) : ∃ σ' : am_St, am_call d 25 [.ref 38, .ref 4] σ τ = some (none, σ', τ) ∧ (∀ c, c ≠ 4 → c ≠ 11 → c ≠ 12 → c ≠ 13 → σ' c = σ c) ∧ σ' 4 0 = nI n ∧ (∀ j, j ≠ 0 → σ' 4 j = σ 4 j) ∧ ∀ j, j < n → σ' 11 j = t j ∧ σ' 12 j = w j ∧ σ' 13 j = a j := by
  obtain ⟨σ', g1, g2, g3⟩ := c_giveBack_loop (d := d) (τ := τ) (t := t) (w := w) (a := a) h12 hb n 0 (am_up σ 4 0 (nI n)) (by omega) (by rw [am_up_ne (by decide)]; exact hn) (fun j hj => by simp (disch := decide) only [am_up_ne]; exact hs j hj) (fun j hj => by omega)
  refine ⟨σ', ?_, fun c x y z v => by rw [g2 c y z v, am_up_ne x], by rw [g2 4 (by decide) (by decide) (by decide), am_up_eq, pk_us], fun j hj => by rw [g2 4 (by decide) (by decide) (by decide), am_up_eq, pk_un hj], g3⟩
  show am_run d 25 0 [.ref 38, .ref 4, .null] [] σ τ = _
  simp (disch := first | assumption | omega | rfl | exact Nat.le_of_ble_eq_true rfl | decide) only [r25_0, r25_1, r25_2, r25_5, r25_8, r25_9, r25_11, r25_12, r25_15, r25_18, r25_19, r25_22, r25_23, r25_24, r25_27, r25_28, r25_29, r25_30, r25_31, r25_34, r25_35, r25_36, r25_39, r25_40, r25_41, r25_42, r25_43, r25_46, r25_47, r25_48, r25_51, r25_52, r25_53, r25_54, r25_57, r25_60, am_gf_4_7, am_gf_4_8, am_gf_4_9, am_gf_38_1, am_gf_38_2, am_gf_38_3, am_gf_38_4, am_pf_4_0, am_ai_11, am_ai_12, am_ai_13, am_ai_39, am_ai_40, am_ai_41, am_nl_i, am_nl_r, am_nl_n, am_nl_l, Option.bind_some, Option.toList_some, Option.toList_none, List.cons_append, List.nil_append, if_true, if_false, Bool.false_eq_true, Int.reduceEq, Int.reduceAdd, ↓reduceIte, hn]
  exact g1
