/-! the reference: asItIs, reckon, wrong, about, .. -/
theorem m_asItIs_2 {d : Nat} {τ : Int64} : ∀ k i (σ : am_St), i + k = 4 → (∀ j, j < i → σ 57 j = σ 44 j) → ∃ σ' : am_St, am_run d 100 42 [.ref 42, .int (nI i)] [] σ τ = some (none, σ', τ) ∧ (∀ a, a ≠ 57 → σ' a = σ a) ∧ ∀ j, j < 4 → σ' 57 j = σ 44 j := by
  intro k
  induction k with
  | zero =>
    intro i σ hi h
    have e : i = 4 := by omega
    subst e
    refine ⟨σ, ?_, fun _ _ => rfl, h⟩
    rw [r100_42]
    simp (disch := first | assumption | omega | rfl | exact Nat.le_of_ble_eq_true rfl | decide) only [r100_0, r100_1, r100_3, r100_4, r100_7, r100_10, r100_11, r100_14, r100_15, r100_16, r100_19, r100_20, r100_21, r100_22, r100_23, r100_26, r100_27, r100_28, r100_31, r100_32, r100_33, r100_34, r100_37, r100_40, r100_41, r100_43, r100_44, r100_47, r100_48, r100_51, r100_52, r100_53, r100_56, r100_57, r100_58, r100_59, r100_62, r100_65, am_gf_42_2, am_gf_42_6, am_gf_42_12, am_gf_42_15, am_gf_42_17, am_gf_42_18, am_gf_42_19, am_ai_44, am_ai_50, am_ai_53, am_ai_55, am_ai_56, am_ai_57, am_nl_i, am_nl_r, am_nl_n, am_nl_l, Option.bind_some, Option.toList_some, Option.toList_none, List.cons_append, List.nil_append, if_true, if_false, Bool.false_eq_true, Int.reduceEq, Int.reduceAdd, ↓reduceIte, show (4 : Int32) = nI 4 from rfl, i_rf]
  | succ k ih =>
    intro i σ hi h
    have hc : ¬ 4 ≤ i := by omega
    have hi4 : i < 4 := by omega
    obtain ⟨σ', g1, g2, g3⟩ := ih (i + 1) (am_up σ 57 i (σ 44 i)) (by omega) (fun j hj => by
      rw [am_up_eq, am_up_ne (by decide)]
      by_cases e : j = i
      · subst e; rw [pk_us]
      · rw [pk_un e]; exact h j (by omega))
    refine ⟨σ', ?_, fun a x => by rw [g2 a x, am_up_ne x], fun j hj => by rw [g3 j hj, am_up_ne (by decide)]⟩
    rw [← g1, r100_42]
    simp (disch := first | assumption | omega | rfl | exact Nat.le_of_ble_eq_true rfl | decide) only [r100_0, r100_1, r100_3, r100_4, r100_7, r100_10, r100_11, r100_14, r100_15, r100_16, r100_19, r100_20, r100_21, r100_22, r100_23, r100_26, r100_27, r100_28, r100_31, r100_32, r100_33, r100_34, r100_37, r100_40, r100_41, r100_43, r100_44, r100_47, r100_48, r100_51, r100_52, r100_53, r100_56, r100_57, r100_58, r100_59, r100_62, r100_65, am_gf_42_2, am_gf_42_6, am_gf_42_12, am_gf_42_15, am_gf_42_17, am_gf_42_18, am_gf_42_19, am_ai_44, am_ai_50, am_ai_53, am_ai_55, am_ai_56, am_ai_57, am_nl_i, am_nl_r, am_nl_n, am_nl_l, Option.bind_some, Option.toList_some, Option.toList_none, List.cons_append, List.nil_append, if_true, if_false, Bool.false_eq_true, Int.reduceEq, Int.reduceAdd, ↓reduceIte, show (4 : Int32) = nI 4 from rfl, ni_le, hc, nI_1]
theorem m_asItIs_1 {d n : Nat} {τ : Int64} (h12 : n ≤ 12) : ∀ k i (σ : am_St), i + k = n → σ 42 6 = nI n → (∀ j, j < i → σ 55 j = σ 53 j ∧ σ 56 j = σ 50 j) → ∃ σ' : am_St, am_run d 100 2 [.ref 42, .int (nI i)] [] σ τ = am_run d 100 40 [.ref 42, .int (nI n)] [] σ' τ ∧ (∀ a, a ≠ 55 → a ≠ 56 → σ' a = σ a) ∧ ∀ j, j < n → σ' 55 j = σ 53 j ∧ σ' 56 j = σ 50 j := by
  intro k
  induction k with
  | zero =>
    intro i σ hi hn h
    have e : i = n := by omega
    subst e
    refine ⟨σ, ?_, fun _ _ _ => rfl, h⟩
    rw [r100_2]
    simp (disch := first | assumption | omega | rfl | exact Nat.le_of_ble_eq_true rfl | decide) only [r100_0, r100_1, r100_3, r100_4, r100_7, r100_10, r100_11, r100_14, r100_15, r100_16, r100_19, r100_20, r100_21, r100_22, r100_23, r100_26, r100_27, r100_28, r100_31, r100_32, r100_33, r100_34, r100_37, r100_41, r100_42, r100_43, r100_44, r100_47, r100_48, r100_51, r100_52, r100_53, r100_56, r100_57, r100_58, r100_59, r100_62, r100_65, am_gf_42_2, am_gf_42_6, am_gf_42_12, am_gf_42_15, am_gf_42_17, am_gf_42_18, am_gf_42_19, am_ai_44, am_ai_50, am_ai_53, am_ai_55, am_ai_56, am_ai_57, am_nl_i, am_nl_r, am_nl_n, am_nl_l, Option.bind_some, Option.toList_some, Option.toList_none, List.cons_append, List.nil_append, if_true, if_false, Bool.false_eq_true, Int.reduceEq, Int.reduceAdd, ↓reduceIte, hn, i_rf]
  | succ k ih =>
    intro i σ hi hn h
    have hc : ¬ n ≤ i := by omega
    have hi4 : i < 12 := by omega
    obtain ⟨σ', g1, g2, g3⟩ := ih (i + 1) (am_up (am_up σ 55 i (σ 53 i)) 56 i (σ 50 i)) (by omega) (by rw [am_up_ne (by decide), am_up_ne (by decide)]; exact hn) (fun j hj => by
      simp (disch := decide) only [am_up_ne, am_up_eq]
      by_cases e : j = i
      · subst e; rw [pk_us, pk_us]; exact ⟨rfl, rfl⟩
      · rw [pk_un e, pk_un e]; exact h j (by omega))
    refine ⟨σ', ?_, fun a x y => by rw [g2 a x y, am_up_ne y, am_up_ne x], fun j hj => by rw [(g3 j hj).1, (g3 j hj).2, am_up_ne (by decide), am_up_ne (by decide), am_up_ne (by decide), am_up_ne (by decide)]; exact ⟨rfl, rfl⟩⟩
    rw [← g1, r100_2]
    simp (disch := first | assumption | omega | rfl | exact Nat.le_of_ble_eq_true rfl | decide) only [r100_0, r100_1, r100_3, r100_4, r100_7, r100_10, r100_11, r100_14, r100_15, r100_16, r100_19, r100_20, r100_21, r100_22, r100_23, r100_26, r100_27, r100_28, r100_31, r100_32, r100_33, r100_34, r100_37, r100_41, r100_42, r100_43, r100_44, r100_47, r100_48, r100_51, r100_52, r100_53, r100_56, r100_57, r100_58, r100_59, r100_62, r100_65, am_gf_42_2, am_gf_42_6, am_gf_42_12, am_gf_42_15, am_gf_42_17, am_gf_42_18, am_gf_42_19, am_ai_44, am_ai_50, am_ai_53, am_ai_55, am_ai_56, am_ai_57, am_nl_i, am_nl_r, am_nl_n, am_nl_l, Option.bind_some, Option.toList_some, Option.toList_none, List.cons_append, List.nil_append, if_true, if_false, Bool.false_eq_true, Int.reduceEq, Int.reduceAdd, ↓reduceIte, hn, ni_le, hc, am_up_ne, nI_1]
theorem m_asT {d : Nat} {σ : am_St} {τ : Int64} {T : tS} (hR : RM σ T) (hW : WF T) : ∃ σ' : am_St, am_call d 100 [.ref 42] σ τ = some (none, σ', τ) ∧ (∀ a, a ≠ 55 → a ≠ 56 → a ≠ 57 → σ' a = σ a) ∧ (∀ j, j < s_n T → σ' 55 j = encS (s_al T) (s_f T) j ∧ σ' 56 j = s_tl T j) ∧ ∀ j, j < 4 → σ' 57 j = s_lw T j := by
  obtain ⟨σ1, a1, a2, a3⟩ := m_asItIs_1 (d := d) (τ := τ) hW.1 (s_n T) 0 σ (by omega) hR.1 (fun j hj => absurd hj (Nat.not_lt_zero j))
  obtain ⟨σ2, b1, b2, b3⟩ := m_asItIs_2 (d := d) (τ := τ) 4 0 σ1 rfl (fun j hj => absurd hj (Nat.not_lt_zero j))
  refine ⟨σ2, ?_, fun a x y z => by rw [b2 a z, a2 a x y], fun j hj => ?_, fun j hj => ?_⟩
  · show am_run d 100 0 [.ref 42, .null] [] σ τ = _
    have e0 : nI 0 = 0 := rfl
    rw [e0] at a1 b1
    simp (disch := first | assumption | omega | rfl | exact Nat.le_of_ble_eq_true rfl | decide) only [r100_0, r100_1, r100_3, r100_4, r100_7, r100_10, r100_11, r100_14, r100_15, r100_16, r100_19, r100_20, r100_21, r100_22, r100_23, r100_26, r100_27, r100_28, r100_31, r100_32, r100_33, r100_34, r100_37, r100_40, r100_41, r100_43, r100_44, r100_47, r100_48, r100_51, r100_52, r100_53, r100_56, r100_57, r100_58, r100_59, r100_62, r100_65, am_gf_42_2, am_gf_42_6, am_gf_42_12, am_gf_42_15, am_gf_42_17, am_gf_42_18, am_gf_42_19, am_ai_44, am_ai_50, am_ai_53, am_ai_55, am_ai_56, am_ai_57, am_nl_i, am_nl_r, am_nl_n, am_nl_l, Option.bind_some, Option.toList_some, Option.toList_none, List.cons_append, List.nil_append, if_true, if_false, Bool.false_eq_true, Int.reduceEq, Int.reduceAdd, ↓reduceIte]
    rw [a1, r100_40]
    simp (disch := first | assumption | omega | rfl | exact Nat.le_of_ble_eq_true rfl | decide) only [r100_0, r100_1, r100_2, r100_3, r100_4, r100_7, r100_10, r100_11, r100_14, r100_15, r100_16, r100_19, r100_20, r100_21, r100_22, r100_23, r100_26, r100_27, r100_28, r100_31, r100_32, r100_33, r100_34, r100_37, r100_41, r100_43, r100_44, r100_47, r100_48, r100_51, r100_52, r100_53, r100_56, r100_57, r100_58, r100_59, r100_62, r100_65, am_gf_42_2, am_gf_42_6, am_gf_42_12, am_gf_42_15, am_gf_42_17, am_gf_42_18, am_gf_42_19, am_ai_44, am_ai_50, am_ai_53, am_ai_55, am_ai_56, am_ai_57, am_nl_i, am_nl_r, am_nl_n, am_nl_l, Option.bind_some, Option.toList_some, Option.toList_none, List.cons_append, List.nil_append, if_true, if_false, Bool.false_eq_true, Int.reduceEq, Int.reduceAdd, ↓reduceIte]
    exact b1
  · obtain ⟨q1, q2⟩ := a3 j hj
    rw [b2 55 (by decide), b2 56 (by decide), q1, q2]
    obtain ⟨-, -, -, -, r5, -, -, r8⟩ := hR.2.1 j hj
    exact ⟨r8, r5⟩
  · rw [b3 j hj, a2 44 (by decide) (by decide)]
    exact hR.2.2.1 j hj
theorem WF.kd {T : tS} (hW : WF T) : ∀ j, j < s_n T → kdK (s_kd T j) := fun j hj => (hW.2.1 j hj).1
/-- parents as the reference has them -/
theorem PH_enc {T : tS} {F M : Nat → Int32} (hW : WF T) (h : ∀ j, j < s_n T → F j = encS (s_al T) (s_f T) j ∧ M j = encS (s_al T) (s_g T) j) : PH (s_n T) (s_al T) (s_f T) (s_g T) F M := by
  intro i hi
  obtain ⟨-, -, hp, -⟩ := hW.2.1 i hi
  rw [(h i hi).1, (h i hi).2]
  unfold encS
  refine ⟨fun ha => by rw [if_pos ha, if_pos ha]; exact ⟨rfl, rfl⟩, fun ha => ?_⟩
  rw [if_neg (by rw [ha]; decide), if_neg (by rw [ha]; decide)]
  exact ⟨rfl, rfl, (hp ha).1, (hp ha).2.1⟩
theorem m_rk {d : Nat} {σ : am_St} {τ : Int64} {T : tS} (hR : RM σ T) (hW : WF T) : ∃ σ' : am_St, am_call (d + 3) 101 [.ref 42] σ τ = some (none, σ', τ) ∧ (∀ a, (a < 54 ∨ 57 < a) → σ' a = σ a) ∧ ∀ j, j < s_n T → σ' 54 j = s_nm T j := by
  obtain ⟨σ1, a1, a2, a3, a4⟩ := m_asT (d := d + 2) (τ := τ) hR hW
  obtain ⟨σ2, b1, b2, b3⟩ := m_layNames (d := d) (σ := σ1) (τ := τ) (n := s_n T) (kd := s_kd T) (tl := s_tl T) (f := s_f T) (g := s_g T) (lw := s_lw T) hW.1 hW.kd hW.2.2.2.1 (by rw [a2 42 (by decide) (by decide) (by decide)]; exact hR.1) (PH_enc hW (fun j hj => ⟨(a3 j hj).1, by rw [a2 49 (by decide) (by decide) (by decide)]; exact (hR.2.1 j hj).2.2.2.1⟩)) (fun j hj => ⟨by rw [a2 46 (by decide) (by decide) (by decide)]; exact (hR.2.1 j hj).1, fun _ => (a3 j hj).2⟩) a4
  refine ⟨σ2, ?_, fun a h => by rw [b2 a (by omega), a2 a (by omega) (by omega) (by omega)], b3⟩
  show am_run (d + 3) 101 0 [.ref 42] [] σ τ = _
  simp (disch := first | assumption | omega | rfl | exact Nat.le_of_ble_eq_true rfl | decide) only [r101_0, r101_1, r101_4, r101_5, r101_8, am_nl_i, am_nl_r, am_nl_n, am_nl_l, Option.bind_some, Option.toList_some, Option.toList_none, List.cons_append, List.nil_append, if_true, if_false, Bool.false_eq_true, Int.reduceEq, Int.reduceAdd, ↓reduceIte, a1, b1]
theorem m_wrongMany_loop {d n : Nat} {σ : am_St} {τ : Int64} (hn : σ 42 6 = nI n) (h12 : n ≤ 12) : ∀ k i, i + k = n → am_run d 102 4 [.ref 42, .int (nI (cnt (wrB (σ 54) (σ 51)) i)), .int (nI i)] [] σ τ = some (some (.int (nI (cnt (wrB (σ 54) (σ 51)) n))), σ, τ) := by
  intro k
  induction k with
  | zero =>
    intro i hi
    have e : i = n := by omega
    subst e
    rw [r102_4]
    simp (disch := first | assumption | omega | rfl | exact Nat.le_of_ble_eq_true rfl | decide) only [r102_0, r102_1, r102_2, r102_3, r102_5, r102_6, r102_9, r102_12, r102_13, r102_14, r102_17, r102_18, r102_19, r102_20, r102_23, r102_24, r102_27, r102_28, r102_29, r102_30, r102_33, r102_34, r102_35, r102_38, r102_39, r102_42, r102_43, r102_44, r102_45, r102_48, r102_51, r102_52, am_gf_42_6, am_gf_42_13, am_gf_42_16, am_ai_51, am_ai_54, am_nl_i, am_nl_r, am_nl_n, am_nl_l, Option.bind_some, Option.toList_some, Option.toList_none, List.cons_append, List.nil_append, if_true, if_false, Bool.false_eq_true, Int.reduceEq, Int.reduceAdd, ↓reduceIte, hn, i_rf]
  | succ k ih =>
    intro i hi
    have hc : ¬ n ≤ i := by omega
    have hi12 : i < 12 := by omega
    rw [← ih (i + 1) (by omega), r102_4, cnt_s]
    have ea : ∀ x : Int32, x + 0 = x := fun x => by simp
    by_cases h1 : σ 51 i = -1
    · have hw : wrB (σ 54) (σ 51) i = false := by unfold wrB; rw [decide_eq_true h1]; rfl
      simp (disch := first | assumption | omega | rfl | exact Nat.le_of_ble_eq_true rfl | decide) only [r102_0, r102_1, r102_2, r102_3, r102_5, r102_6, r102_9, r102_12, r102_13, r102_14, r102_17, r102_18, r102_19, r102_20, r102_23, r102_24, r102_27, r102_28, r102_29, r102_30, r102_33, r102_34, r102_35, r102_38, r102_39, r102_42, r102_43, r102_44, r102_45, r102_48, r102_51, r102_52, am_gf_42_6, am_gf_42_13, am_gf_42_16, am_ai_51, am_ai_54, am_nl_i, am_nl_r, am_nl_n, am_nl_l, Option.bind_some, Option.toList_some, Option.toList_none, List.cons_append, List.nil_append, if_true, if_false, Bool.false_eq_true, Int.reduceEq, Int.reduceAdd, ↓reduceIte, hn, ni_le, hc, h1, hw, nI_1, ea, Nat.add_zero]
    · by_cases h2 : σ 51 i = σ 54 i
      · have hw : wrB (σ 54) (σ 51) i = false := by unfold wrB; rw [decide_eq_true h2, Bool.not_true, Bool.and_false]
        have h1' : ¬ σ 54 i = -1 := by rw [← h2]; exact h1
        simp (disch := first | assumption | omega | rfl | exact Nat.le_of_ble_eq_true rfl | decide) only [r102_0, r102_1, r102_2, r102_3, r102_5, r102_6, r102_9, r102_12, r102_13, r102_14, r102_17, r102_18, r102_19, r102_20, r102_23, r102_24, r102_27, r102_28, r102_29, r102_30, r102_33, r102_34, r102_35, r102_38, r102_39, r102_42, r102_43, r102_44, r102_45, r102_48, r102_51, r102_52, am_gf_42_6, am_gf_42_13, am_gf_42_16, am_ai_51, am_ai_54, am_nl_i, am_nl_r, am_nl_n, am_nl_l, Option.bind_some, Option.toList_some, Option.toList_none, List.cons_append, List.nil_append, if_true, if_false, Bool.false_eq_true, Int.reduceEq, Int.reduceAdd, ↓reduceIte, hn, ni_le, hc, h1', h2, hw, nI_1, ea, Nat.add_zero]
      · have hw : wrB (σ 54) (σ 51) i = true := by unfold wrB; rw [decide_eq_false h1, decide_eq_false h2]; rfl
        simp (disch := first | assumption | omega | rfl | exact Nat.le_of_ble_eq_true rfl | decide) only [r102_0, r102_1, r102_2, r102_3, r102_5, r102_6, r102_9, r102_12, r102_13, r102_14, r102_17, r102_18, r102_19, r102_20, r102_23, r102_24, r102_27, r102_28, r102_29, r102_30, r102_33, r102_34, r102_35, r102_38, r102_39, r102_42, r102_43, r102_44, r102_45, r102_48, r102_51, r102_52, am_gf_42_6, am_gf_42_13, am_gf_42_16, am_ai_51, am_ai_54, am_nl_i, am_nl_r, am_nl_n, am_nl_l, Option.bind_some, Option.toList_some, Option.toList_none, List.cons_append, List.nil_append, if_true, if_false, Bool.false_eq_true, Int.reduceEq, Int.reduceAdd, ↓reduceIte, hn, ni_le, hc, h1, h2, hw, nI_1]
theorem m_wrongMany {d n : Nat} {σ : am_St} {τ : Int64} (hn : σ 42 6 = nI n) (h12 : n ≤ 12) : am_call d 102 [.ref 42] σ τ = some (some (.int (nI (cnt (wrB (σ 54) (σ 51)) n))), σ, τ) := by
  show am_run d 102 0 [.ref 42, .null, .null] [] σ τ = _
  simp (disch := first | assumption | omega | rfl | exact Nat.le_of_ble_eq_true rfl | decide) only [r102_0, r102_1, r102_2, r102_3, r102_5, r102_6, r102_9, r102_12, r102_13, r102_14, r102_17, r102_18, r102_19, r102_20, r102_23, r102_24, r102_27, r102_28, r102_29, r102_30, r102_33, r102_34, r102_35, r102_38, r102_39, r102_42, r102_43, r102_44, r102_45, r102_48, r102_51, r102_52, am_gf_42_6, am_gf_42_13, am_gf_42_16, am_ai_51, am_ai_54, am_nl_i, am_nl_r, am_nl_n, am_nl_l, Option.bind_some, Option.toList_some, Option.toList_none, List.cons_append, List.nil_append, if_true, if_false, Bool.false_eq_true, Int.reduceEq, Int.reduceAdd, ↓reduceIte]
  exact m_wrongMany_loop hn h12 n 0 (by omega)
theorem gn_rec {T : tS} (hW : WF T) {k : Nat} (hk : k < s_n T) : s_gn T k = if s_al T k = true then 0 else 1 + (if s_gn T (s_f T k) < s_gn T (s_g T k) then s_gn T (s_g T k) else s_gn T (s_f T k)) := by
  unfold s_gn
  rw [gnA_stable (m := k + 1) (by omega) (by omega), gnA_s]
  dsimp only
  rw [if_pos rfl]
  cases ha : s_al T k with
  | true => rfl
  | false =>
    obtain ⟨h1, h2, -⟩ := (hW.2.1 k hk).2.2.1 ha
    rw [gnA_stable (i := s_f T k) (m := k) (n := s_n T) h1 (by omega), gnA_stable (i := s_g T k) (m := k) (n := s_n T) h2 (by omega)]
theorem m_gen_loop {d p : Nat} {τ : Int64} {T : tS} (hW : WF T) (hp : p < s_n T) : ∀ k i (v3 v4 : Value) (σ : am_St), i + k = p + 1 → (∀ j, j < s_n T → σ 53 j = encS (s_al T) (s_f T) j ∧ σ 49 j = encS (s_al T) (s_g T) j) → (∀ j, j < i → σ 58 j = nI (s_gn T j)) → ∃ σ' : am_St, am_run d 103 2 [.ref 42, .int (nI p), .int (nI i), v3, v4] [] σ τ = some (some (.int (nI (s_gn T p))), σ', τ) ∧ ∀ c, c ≠ 58 → σ' c = σ c := by
  intro k
  have h12 := hW.1
  induction k with
  | zero =>
    intro i v3 v4 σ hi hfg hh
    have e : i = p + 1 := by omega
    subst e
    refine ⟨σ, ?_, fun _ _ => rfl⟩
    have hp12 : p < 12 := by omega
    have hlt : nI p < nI (p + 1) := (nI_ltI (by omega) (by omega)).mpr (by omega)
    rw [r103_2]
    simp (disch := first | assumption | omega | rfl | exact Nat.le_of_ble_eq_true rfl | decide) only [r103_0, r103_1, r103_3, r103_4, r103_7, r103_8, r103_11, r103_12, r103_13, r103_14, r103_17, r103_18, r103_21, r103_22, r103_25, r103_26, r103_29, r103_30, r103_31, r103_32, r103_33, r103_34, r103_37, r103_38, r103_39, r103_40, r103_43, r103_44, r103_47, r103_48, r103_51, r103_52, r103_55, r103_56, r103_57, r103_58, r103_60, r103_61, r103_64, r103_65, r103_66, r103_67, r103_69, r103_72, r103_73, r103_76, r103_78, r103_79, r103_80, r103_83, r103_86, r103_87, r103_90, r103_91, r103_92, am_gf_42_11, am_gf_42_15, am_gf_42_20, am_ai_49, am_ai_53, am_ai_58, am_nl_i, am_nl_r, am_nl_n, am_nl_l, Option.bind_some, Option.toList_some, Option.toList_none, List.cons_append, List.nil_append, if_true, if_false, Bool.false_eq_true, Int.reduceEq, Int.reduceAdd, ↓reduceIte, hlt, hh p (by omega)]
  | succ k ih =>
    intro i v3 v4 σ hi hfg hh
    have hin : i < s_n T := by omega
    have hi12 : i < 12 := by omega
    have hc : ¬ nI p < nI i := by rw [ni_lt (by omega) (by omega)]; omega
    obtain ⟨e1, e2⟩ := hfg i hin
    have hrec := gn_rec hW hin
    cases ha : s_al T i with
    | true =>
      unfold encS at e1 e2
      rw [if_pos ha] at e1 e2 hrec
      obtain ⟨σ', g1, g2⟩ := ih (i + 1) (.int (-1)) (.int (-1)) (am_up σ 58 i (nI (s_gn T i))) (by omega) (fun j hj => by rw [am_up_ne (by decide), am_up_ne (by decide)]; exact hfg j hj) (fun j hj => by
        rw [am_up_eq]
        by_cases e : j = i
        · subst e; rw [pk_us]
        · rw [pk_un e]; exact hh j (by omega))
      refine ⟨σ', ?_, fun c x => by rw [g2 c x, am_up_ne x]⟩
      have hle : (-1 : Int32) ≤ -1 := by decide
      have ez : (1 : Int32) + -1 = nI 0 := by decide
      rw [← g1, r103_2, hrec]
      simp (disch := first | assumption | omega | rfl | exact Nat.le_of_ble_eq_true rfl | decide) only [r103_0, r103_1, r103_3, r103_4, r103_7, r103_8, r103_11, r103_12, r103_13, r103_14, r103_17, r103_18, r103_21, r103_22, r103_25, r103_26, r103_29, r103_30, r103_31, r103_32, r103_33, r103_34, r103_37, r103_38, r103_39, r103_40, r103_43, r103_44, r103_47, r103_48, r103_51, r103_52, r103_55, r103_56, r103_57, r103_58, r103_60, r103_61, r103_64, r103_65, r103_66, r103_67, r103_69, r103_72, r103_73, r103_76, r103_78, r103_79, r103_80, r103_83, r103_86, r103_87, r103_90, r103_91, r103_92, am_gf_42_11, am_gf_42_15, am_gf_42_20, am_ai_49, am_ai_53, am_ai_58, am_nl_i, am_nl_r, am_nl_n, am_nl_l, Option.bind_some, Option.toList_some, Option.toList_none, List.cons_append, List.nil_append, if_true, if_false, Bool.false_eq_true, Int.reduceEq, Int.reduceAdd, ↓reduceIte, hc, e1, e2, hle, ez, nI_1]
    | false =>
      have hna : ¬ s_al T i = true := by rw [ha]; decide
      obtain ⟨hf, hg, -⟩ := (hW.2.1 i hin).2.2.1 ha
      unfold encS at e1 e2
      rw [if_neg hna] at e1 e2 hrec
      have hf12 : s_f T i < 12 := by omega
      have hg12 : s_g T i < 12 := by omega
      have nf : ¬ nI (s_f T i) = -1 := am_nm1 (by omega)
      have ng : ¬ nI (s_g T i) = -1 := am_nm1 (by omega)
      have hhf := hh (s_f T i) hf
      have hhg := hh (s_g T i) hg
      have bf : s_gn T (s_f T i) ≤ 12 := Nat.le_trans (gnA_le _ _ _ _ _) h12
      have bg : s_gn T (s_g T i) ≤ 12 := Nat.le_trans (gnA_le _ _ _ _ _) h12
      obtain ⟨σ', g1, g2⟩ := ih (i + 1) (.int (nI (s_gn T (s_f T i)))) (.int (nI (s_gn T (s_g T i)))) (am_up σ 58 i (nI (s_gn T i))) (by omega) (fun j hj => by rw [am_up_ne (by decide), am_up_ne (by decide)]; exact hfg j hj) (fun j hj => by
        rw [am_up_eq]
        by_cases e : j = i
        · subst e; rw [pk_us]
        · rw [pk_un e]; exact hh j (by omega))
      refine ⟨σ', ?_, fun c x => by rw [g2 c x, am_up_ne x]⟩
      rw [← g1, r103_2]
      by_cases hle : s_gn T (s_f T i) ≤ s_gn T (s_g T i)
      · have hle2 : nI (s_gn T (s_f T i)) ≤ nI (s_gn T (s_g T i)) := nI_le hle (by omega)
        have ev : (1 : Int32) + nI (s_gn T (s_g T i)) = nI (s_gn T i) := by
          rw [hrec]
          split
          · exact nI_add 1 _
          · rw [show s_gn T (s_f T i) = s_gn T (s_g T i) by omega]; exact nI_add 1 _
        simp (disch := first | assumption | omega | rfl | exact Nat.le_of_ble_eq_true rfl | decide) only [r103_0, r103_1, r103_3, r103_4, r103_7, r103_8, r103_11, r103_12, r103_13, r103_14, r103_17, r103_18, r103_21, r103_22, r103_25, r103_26, r103_29, r103_30, r103_31, r103_32, r103_33, r103_34, r103_37, r103_38, r103_39, r103_40, r103_43, r103_44, r103_47, r103_48, r103_51, r103_52, r103_55, r103_56, r103_57, r103_58, r103_60, r103_61, r103_64, r103_65, r103_66, r103_67, r103_69, r103_72, r103_73, r103_76, r103_78, r103_79, r103_80, r103_83, r103_86, r103_87, r103_90, r103_91, r103_92, am_gf_42_11, am_gf_42_15, am_gf_42_20, am_ai_49, am_ai_53, am_ai_58, am_nl_i, am_nl_r, am_nl_n, am_nl_l, Option.bind_some, Option.toList_some, Option.toList_none, List.cons_append, List.nil_append, if_true, if_false, Bool.false_eq_true, Int.reduceEq, Int.reduceAdd, ↓reduceIte, hc, e1, e2, nf, ng, hhf, hhg, hle2, ev, nI_1]
      · have hle2 : ¬ nI (s_gn T (s_f T i)) ≤ nI (s_gn T (s_g T i)) := by rw [ni_le (by omega) (by omega)]; exact hle
        have ev : (1 : Int32) + nI (s_gn T (s_f T i)) = nI (s_gn T i) := by
          rw [hrec, if_neg (by omega)]; exact nI_add 1 _
        simp (disch := first | assumption | omega | rfl | exact Nat.le_of_ble_eq_true rfl | decide) only [r103_0, r103_1, r103_3, r103_4, r103_7, r103_8, r103_11, r103_12, r103_13, r103_14, r103_17, r103_18, r103_21, r103_22, r103_25, r103_26, r103_29, r103_30, r103_31, r103_32, r103_33, r103_34, r103_37, r103_38, r103_39, r103_40, r103_43, r103_44, r103_47, r103_48, r103_51, r103_52, r103_55, r103_56, r103_57, r103_58, r103_60, r103_61, r103_64, r103_65, r103_66, r103_67, r103_69, r103_72, r103_73, r103_76, r103_78, r103_79, r103_80, r103_83, r103_86, r103_87, r103_90, r103_91, r103_92, am_gf_42_11, am_gf_42_15, am_gf_42_20, am_ai_49, am_ai_53, am_ai_58, am_nl_i, am_nl_r, am_nl_n, am_nl_l, Option.bind_some, Option.toList_some, Option.toList_none, List.cons_append, List.nil_append, if_true, if_false, Bool.false_eq_true, Int.reduceEq, Int.reduceAdd, ↓reduceIte, hc, e1, e2, nf, ng, hhf, hhg, hle2, ev, nI_1]
theorem m_gen {d p : Nat} {σ : am_St} {τ : Int64} {T : tS} (hR : RM σ T) (hW : WF T) (hp : p < s_n T) : ∃ σ' : am_St, am_call d 103 [.ref 42, .int (nI p)] σ τ = some (some (.int (nI (s_gn T p))), σ', τ) ∧ ∀ c, c ≠ 58 → σ' c = σ c := by
  obtain ⟨σ', g1, g2⟩ := m_gen_loop (d := d) (τ := τ) hW hp (p + 1) 0 .null .null σ (by omega) (fun j hj => ⟨(hR.2.1 j hj).2.2.2.2.2.2.2, (hR.2.1 j hj).2.2.2.1⟩) (fun j hj => absurd hj (Nat.not_lt_zero j))
  refine ⟨σ', ?_, g2⟩
  show am_run d 103 0 [.ref 42, .int (nI p), .null, .null, .null] [] σ τ = _
  simp (disch := first | assumption | omega | rfl | exact Nat.le_of_ble_eq_true rfl | decide) only [r103_0, r103_1, r103_3, r103_4, r103_7, r103_8, r103_11, r103_12, r103_13, r103_14, r103_17, r103_18, r103_21, r103_22, r103_25, r103_26, r103_29, r103_30, r103_31, r103_32, r103_33, r103_34, r103_37, r103_38, r103_39, r103_40, r103_43, r103_44, r103_47, r103_48, r103_51, r103_52, r103_55, r103_56, r103_57, r103_58, r103_60, r103_61, r103_64, r103_65, r103_66, r103_67, r103_69, r103_72, r103_73, r103_76, r103_78, r103_79, r103_80, r103_83, r103_86, r103_87, r103_90, r103_91, r103_92, am_gf_42_11, am_gf_42_15, am_gf_42_20, am_ai_49, am_ai_53, am_ai_58, am_nl_i, am_nl_r, am_nl_n, am_nl_l, Option.bind_some, Option.toList_some, Option.toList_none, List.cons_append, List.nil_append, if_true, if_false, Bool.false_eq_true, Int.reduceEq, Int.reduceAdd, ↓reduceIte]
  exact g1
theorem m_tell {d p : Nat} {σ : am_St} {τ : Int64} {T : tS} {x : Int32} (hR : RM σ T) (hW : WF T) (hp : p < s_n T) : ∃ σ' : am_St, am_call (d + 4) 104 [.ref 42, .int (nI p), .int x] σ τ = some (some (.int (abS T p x)), σ', τ) ∧ ∀ a, (a < 54 ∨ 58 < a) → σ' a = σ a := by
  have h12 := hW.1
  have hp12 : p < 12 := by omega
  obtain ⟨q46, q47, q48, q49, q50, q51, q52, q53⟩ := hR.2.1 p hp
  show ∃ σ' : am_St, am_run (d + 4) 104 0 [.ref 42, .int (nI p), .int x] [] σ τ = _ ∧ _
  unfold abS
  by_cases h0 : x = 0
  · subst h0
    have t0 : (0 : Int32).toInt = 0 := by decide
    refine ⟨σ, ?_, fun _ _ => rfl⟩
    simp (disch := first | assumption | omega | rfl | exact Nat.le_of_ble_eq_true rfl | decide) only [r104_0, r104_1, r104_48, r104_49, r104_52, r104_53, r104_54, r104_55, r104_56, r104_59, r104_60, r104_61, r104_62, r104_63, r104_66, r104_67, r104_68, r104_69, r104_70, r104_73, r104_74, r104_75, r104_76, r104_77, r104_80, r104_81, r104_84, r104_85, r104_86, r104_87, r104_88, r104_91, r104_92, r104_93, r104_94, r104_95, r104_98, r104_99, r104_100, r104_101, r104_102, r104_103, r104_106, r104_107, r104_109, am_gf_42_8, am_gf_42_9, am_gf_42_10, am_gf_42_11, am_gf_42_13, am_gf_42_14, am_gf_42_16, am_ai_46, am_ai_47, am_ai_48, am_ai_49, am_ai_51, am_ai_52, am_ai_54, am_nl_i, am_nl_r, am_nl_n, am_nl_l, Option.bind_some, Option.toList_some, Option.toList_none, List.cons_append, List.nil_append, if_true, if_false, Bool.false_eq_true, Int.reduceEq, Int.reduceAdd, ↓reduceIte, am_sw, t0, q46]
  · by_cases h1 : x = 1
    · subst h1
      have t1 : (1 : Int32).toInt = 1 := by decide
      refine ⟨σ, ?_, fun _ _ => rfl⟩
      simp (disch := first | assumption | omega | rfl | exact Nat.le_of_ble_eq_true rfl | decide) only [r104_0, r104_1, r104_48, r104_49, r104_52, r104_53, r104_54, r104_55, r104_56, r104_59, r104_60, r104_61, r104_62, r104_63, r104_66, r104_67, r104_68, r104_69, r104_70, r104_73, r104_74, r104_75, r104_76, r104_77, r104_80, r104_81, r104_84, r104_85, r104_86, r104_87, r104_88, r104_91, r104_92, r104_93, r104_94, r104_95, r104_98, r104_99, r104_100, r104_101, r104_102, r104_103, r104_106, r104_107, r104_109, am_gf_42_8, am_gf_42_9, am_gf_42_10, am_gf_42_11, am_gf_42_13, am_gf_42_14, am_gf_42_16, am_ai_46, am_ai_47, am_ai_48, am_ai_49, am_ai_51, am_ai_52, am_ai_54, am_nl_i, am_nl_r, am_nl_n, am_nl_l, Option.bind_some, Option.toList_some, Option.toList_none, List.cons_append, List.nil_append, if_true, if_false, Bool.false_eq_true, Int.reduceEq, Int.reduceAdd, ↓reduceIte, am_sw, t1, q47, h0]
    · by_cases h2 : x = 2
      · subst h2
        have t2 : (2 : Int32).toInt = 2 := by decide
        refine ⟨σ, ?_, fun _ _ => rfl⟩
        simp (disch := first | assumption | omega | rfl | exact Nat.le_of_ble_eq_true rfl | decide) only [r104_0, r104_1, r104_48, r104_49, r104_52, r104_53, r104_54, r104_55, r104_56, r104_59, r104_60, r104_61, r104_62, r104_63, r104_66, r104_67, r104_68, r104_69, r104_70, r104_73, r104_74, r104_75, r104_76, r104_77, r104_80, r104_81, r104_84, r104_85, r104_86, r104_87, r104_88, r104_91, r104_92, r104_93, r104_94, r104_95, r104_98, r104_99, r104_100, r104_101, r104_102, r104_103, r104_106, r104_107, r104_109, am_gf_42_8, am_gf_42_9, am_gf_42_10, am_gf_42_11, am_gf_42_13, am_gf_42_14, am_gf_42_16, am_ai_46, am_ai_47, am_ai_48, am_ai_49, am_ai_51, am_ai_52, am_ai_54, am_nl_i, am_nl_r, am_nl_n, am_nl_l, Option.bind_some, Option.toList_some, Option.toList_none, List.cons_append, List.nil_append, if_true, if_false, Bool.false_eq_true, Int.reduceEq, Int.reduceAdd, ↓reduceIte, am_sw, t2, q48, h0, h1]
      · by_cases h3 : x = 3
        · subst h3
          have t3 : (3 : Int32).toInt = 3 := by decide
          refine ⟨σ, ?_, fun _ _ => rfl⟩
          simp (disch := first | assumption | omega | rfl | exact Nat.le_of_ble_eq_true rfl | decide) only [r104_0, r104_1, r104_48, r104_49, r104_52, r104_53, r104_54, r104_55, r104_56, r104_59, r104_60, r104_61, r104_62, r104_63, r104_66, r104_67, r104_68, r104_69, r104_70, r104_73, r104_74, r104_75, r104_76, r104_77, r104_80, r104_81, r104_84, r104_85, r104_86, r104_87, r104_88, r104_91, r104_92, r104_93, r104_94, r104_95, r104_98, r104_99, r104_100, r104_101, r104_102, r104_103, r104_106, r104_107, r104_109, am_gf_42_8, am_gf_42_9, am_gf_42_10, am_gf_42_11, am_gf_42_13, am_gf_42_14, am_gf_42_16, am_ai_46, am_ai_47, am_ai_48, am_ai_49, am_ai_51, am_ai_52, am_ai_54, am_nl_i, am_nl_r, am_nl_n, am_nl_l, Option.bind_some, Option.toList_some, Option.toList_none, List.cons_append, List.nil_append, if_true, if_false, Bool.false_eq_true, Int.reduceEq, Int.reduceAdd, ↓reduceIte, am_sw, t3, q49, h0, h1, h2]
        · by_cases h4 : x = 4
          · subst h4
            have t4 : (4 : Int32).toInt = 4 := by decide
            obtain ⟨σ', g1, g2, g3⟩ := m_rk (d := d) (τ := τ) hR hW
            refine ⟨σ', ?_, fun a h => g2 a (by omega)⟩
            simp (disch := first | assumption | omega | rfl | exact Nat.le_of_ble_eq_true rfl | decide) only [r104_0, r104_1, r104_48, r104_49, r104_52, r104_53, r104_54, r104_55, r104_56, r104_59, r104_60, r104_61, r104_62, r104_63, r104_66, r104_67, r104_68, r104_69, r104_70, r104_73, r104_74, r104_75, r104_76, r104_77, r104_80, r104_81, r104_84, r104_85, r104_86, r104_87, r104_88, r104_91, r104_92, r104_93, r104_94, r104_95, r104_98, r104_99, r104_100, r104_101, r104_102, r104_103, r104_106, r104_107, r104_109, am_gf_42_8, am_gf_42_9, am_gf_42_10, am_gf_42_11, am_gf_42_13, am_gf_42_14, am_gf_42_16, am_ai_46, am_ai_47, am_ai_48, am_ai_49, am_ai_51, am_ai_52, am_ai_54, am_nl_i, am_nl_r, am_nl_n, am_nl_l, Option.bind_some, Option.toList_some, Option.toList_none, List.cons_append, List.nil_append, if_true, if_false, Bool.false_eq_true, Int.reduceEq, Int.reduceAdd, ↓reduceIte, am_sw, t4, g1, g3 p hp, h0, h1, h2, h3]
          · by_cases h5 : x = 5
            · subst h5
              have t5 : (5 : Int32).toInt = 5 := by decide
              refine ⟨σ, ?_, fun _ _ => rfl⟩
              simp (disch := first | assumption | omega | rfl | exact Nat.le_of_ble_eq_true rfl | decide) only [r104_0, r104_1, r104_48, r104_49, r104_52, r104_53, r104_54, r104_55, r104_56, r104_59, r104_60, r104_61, r104_62, r104_63, r104_66, r104_67, r104_68, r104_69, r104_70, r104_73, r104_74, r104_75, r104_76, r104_77, r104_80, r104_81, r104_84, r104_85, r104_86, r104_87, r104_88, r104_91, r104_92, r104_93, r104_94, r104_95, r104_98, r104_99, r104_100, r104_101, r104_102, r104_103, r104_106, r104_107, r104_109, am_gf_42_8, am_gf_42_9, am_gf_42_10, am_gf_42_11, am_gf_42_13, am_gf_42_14, am_gf_42_16, am_ai_46, am_ai_47, am_ai_48, am_ai_49, am_ai_51, am_ai_52, am_ai_54, am_nl_i, am_nl_r, am_nl_n, am_nl_l, Option.bind_some, Option.toList_some, Option.toList_none, List.cons_append, List.nil_append, if_true, if_false, Bool.false_eq_true, Int.reduceEq, Int.reduceAdd, ↓reduceIte, am_sw, t5, q51, h0, h1, h2, h3, h4]
            · by_cases h6 : x = 6
              · subst h6
                have t6 : (6 : Int32).toInt = 6 := by decide
                refine ⟨σ, ?_, fun _ _ => rfl⟩
                simp (disch := first | assumption | omega | rfl | exact Nat.le_of_ble_eq_true rfl | decide) only [r104_0, r104_1, r104_48, r104_49, r104_52, r104_53, r104_54, r104_55, r104_56, r104_59, r104_60, r104_61, r104_62, r104_63, r104_66, r104_67, r104_68, r104_69, r104_70, r104_73, r104_74, r104_75, r104_76, r104_77, r104_80, r104_81, r104_84, r104_85, r104_86, r104_87, r104_88, r104_91, r104_92, r104_93, r104_94, r104_95, r104_98, r104_99, r104_100, r104_101, r104_102, r104_103, r104_106, r104_107, r104_109, am_gf_42_8, am_gf_42_9, am_gf_42_10, am_gf_42_11, am_gf_42_13, am_gf_42_14, am_gf_42_16, am_ai_46, am_ai_47, am_ai_48, am_ai_49, am_ai_51, am_ai_52, am_ai_54, am_nl_i, am_nl_r, am_nl_n, am_nl_l, Option.bind_some, Option.toList_some, Option.toList_none, List.cons_append, List.nil_append, if_true, if_false, Bool.false_eq_true, Int.reduceEq, Int.reduceAdd, ↓reduceIte, am_sw, t6, q52, h0, h1, h2, h3, h4, h5]
              · by_cases h7 : x = 7
                · subst h7
                  have t7 : (7 : Int32).toInt = 7 := by decide
                  obtain ⟨σ', g1, g2⟩ := m_gen (d := d + 3) (τ := τ) hR hW hp
                  refine ⟨σ', ?_, fun a h => g2 a (by omega)⟩
                  simp (disch := first | assumption | omega | rfl | exact Nat.le_of_ble_eq_true rfl | decide) only [r104_0, r104_1, r104_48, r104_49, r104_52, r104_53, r104_54, r104_55, r104_56, r104_59, r104_60, r104_61, r104_62, r104_63, r104_66, r104_67, r104_68, r104_69, r104_70, r104_73, r104_74, r104_75, r104_76, r104_77, r104_80, r104_81, r104_84, r104_85, r104_86, r104_87, r104_88, r104_91, r104_92, r104_93, r104_94, r104_95, r104_98, r104_99, r104_100, r104_101, r104_102, r104_103, r104_106, r104_107, r104_109, am_gf_42_8, am_gf_42_9, am_gf_42_10, am_gf_42_11, am_gf_42_13, am_gf_42_14, am_gf_42_16, am_ai_46, am_ai_47, am_ai_48, am_ai_49, am_ai_51, am_ai_52, am_ai_54, am_nl_i, am_nl_r, am_nl_n, am_nl_l, Option.bind_some, Option.toList_some, Option.toList_none, List.cons_append, List.nil_append, if_true, if_false, Bool.false_eq_true, Int.reduceEq, Int.reduceAdd, ↓reduceIte, am_sw, t7, g1, h0, h1, h2, h3, h4, h5, h6]
                · have t0 : ¬ x.toInt = 0 := lv_neT h0 rfl
                  have t1 : ¬ x.toInt = 1 := lv_neT h1 rfl
                  have t2 : ¬ x.toInt = 2 := lv_neT h2 rfl
                  have t3 : ¬ x.toInt = 3 := lv_neT h3 rfl
                  have t4 : ¬ x.toInt = 4 := lv_neT h4 rfl
                  have t5 : ¬ x.toInt = 5 := lv_neT h5 rfl
                  have t6 : ¬ x.toInt = 6 := lv_neT h6 rfl
                  have t7 : ¬ x.toInt = 7 := lv_neT h7 rfl
                  refine ⟨σ, ?_, fun _ _ => rfl⟩
                  simp (disch := first | assumption | omega | rfl | exact Nat.le_of_ble_eq_true rfl | decide) only [r104_0, r104_1, r104_48, r104_49, r104_52, r104_53, r104_54, r104_55, r104_56, r104_59, r104_60, r104_61, r104_62, r104_63, r104_66, r104_67, r104_68, r104_69, r104_70, r104_73, r104_74, r104_75, r104_76, r104_77, r104_80, r104_81, r104_84, r104_85, r104_86, r104_87, r104_88, r104_91, r104_92, r104_93, r104_94, r104_95, r104_98, r104_99, r104_100, r104_101, r104_102, r104_103, r104_106, r104_107, r104_109, am_gf_42_8, am_gf_42_9, am_gf_42_10, am_gf_42_11, am_gf_42_13, am_gf_42_14, am_gf_42_16, am_ai_46, am_ai_47, am_ai_48, am_ai_49, am_ai_51, am_ai_52, am_ai_54, am_nl_i, am_nl_r, am_nl_n, am_nl_l, Option.bind_some, Option.toList_some, Option.toList_none, List.cons_append, List.nil_append, if_true, if_false, Bool.false_eq_true, Int.reduceEq, Int.reduceAdd, ↓reduceIte, am_sw, t0, t1, t2, t3, t4, t5, t6, t7, h0, h1, h2, h3, h4, h5, h6, h7]
theorem m_about {d : Nat} {σ : am_St} {τ : Int64} {T : tS} {p x : Int32} (hR : RM σ T) (hW : WF T) : ∃ σ' : am_St, am_call (d + 5) 105 [.ref 42, .int p, .int x] σ τ = some (some (.int (sp_about T p x)), σ', τ) ∧ KM σ σ' := by
  show ∃ σ' : am_St, am_run (d + 5) 105 0 [.ref 42, .int p, .int x] [] σ τ = _ ∧ _
  unfold sp_about
  cases hp : idx (s_n T) p with
  | none =>
    refine ⟨σ, ?_, KM.rf⟩
    simp (disch := first | assumption | omega | rfl | exact Nat.le_of_ble_eq_true rfl | decide) only [r105_0, r105_1, r105_2, r105_5, r105_8, r105_9, r105_10, r105_11, r105_14, r105_17, r105_19, am_nl_i, am_nl_r, am_nl_n, am_nl_l, Option.bind_some, Option.toList_some, Option.toList_none, List.cons_append, List.nil_append, if_true, if_false, Bool.false_eq_true, Int.reduceEq, Int.reduceAdd, ↓reduceIte, m_isP_n hR.1 hW.1 hp]
  | some j =>
    obtain ⟨hj, rfl⟩ := idx_some hW.1 hp
    obtain ⟨σ', g1, g2⟩ := m_tell (d := d) (τ := τ) (x := x) hR hW hj
    refine ⟨σ', ?_, KM.of (fun c hc => g2 c (by omega))⟩
    simp (disch := first | assumption | omega | rfl | exact Nat.le_of_ble_eq_true rfl | decide) only [r105_0, r105_1, r105_2, r105_5, r105_8, r105_9, r105_10, r105_11, r105_14, r105_17, r105_19, am_nl_i, am_nl_r, am_nl_n, am_nl_l, Option.bind_some, Option.toList_some, Option.toList_none, List.cons_append, List.nil_append, if_true, if_false, Bool.false_eq_true, Int.reduceEq, Int.reduceAdd, ↓reduceIte, m_isP_s hR.1 hW.1 hp, e10, g1]
theorem m_as {d : Nat} {σ : am_St} {τ : Int64} {T : tS} {p k : Int32} (hR : RM σ T) (hW : WF T) : am_call (d + 2) 106 [.ref 42, .int p, .int k] σ τ = some (some (.int (sp_as T p k)), σ, τ) := by
  show am_run (d + 2) 106 0 [.ref 42, .int p, .int k, .null] [] σ τ = _
  unfold sp_as
  have hn := hR.1
  have h12 := hW.1
  cases hp : idx (s_n T) p with
  | none => simp (disch := first | assumption | omega | rfl | exact Nat.le_of_ble_eq_true rfl | decide) only [r106_0, r106_1, r106_2, r106_5, r106_8, r106_10, r106_11, r106_12, r106_13, r106_14, r106_17, r106_20, r106_23, r106_25, r106_26, r106_27, r106_30, r106_31, r106_32, r106_35, r106_36, r106_37, r106_40, r106_41, r106_42, r106_45, r106_46, r106_49, r106_50, r106_51, r106_52, r106_55, r106_56, r106_59, r106_60, r106_61, r106_62, r106_65, r106_66, r106_69, r106_70, am_gf_42_8, am_ai_46, am_nl_i, am_nl_r, am_nl_n, am_nl_l, Option.bind_some, Option.toList_some, Option.toList_none, List.cons_append, List.nil_append, if_true, if_false, Bool.false_eq_true, Int.reduceEq, Int.reduceAdd, ↓reduceIte, m_isP_n hn h12 hp]
  | some j =>
    obtain ⟨hj, rfl⟩ := idx_some h12 hp
    have hj12 : j < 12 := by omega
    have q5 := (hR.2.1 j hj).1
    dsimp only
    by_cases hk : kdB k = 0
    · simp (disch := first | assumption | omega | rfl | exact Nat.le_of_ble_eq_true rfl | decide) only [r106_0, r106_1, r106_2, r106_5, r106_8, r106_10, r106_11, r106_12, r106_13, r106_14, r106_17, r106_20, r106_23, r106_25, r106_26, r106_27, r106_30, r106_31, r106_32, r106_35, r106_36, r106_37, r106_40, r106_41, r106_42, r106_45, r106_46, r106_49, r106_50, r106_51, r106_52, r106_55, r106_56, r106_59, r106_60, r106_61, r106_62, r106_65, r106_66, r106_69, r106_70, am_gf_42_8, am_ai_46, am_nl_i, am_nl_r, am_nl_n, am_nl_l, Option.bind_some, Option.toList_some, Option.toList_none, List.cons_append, List.nil_append, if_true, if_false, Bool.false_eq_true, Int.reduceEq, Int.reduceAdd, ↓reduceIte, m_isP_s hn h12 hp, e10, c_in04, in_kd, hk]
    · rw [if_neg hk]
      by_cases h0 : k = 0
      · subst h0
        simp (disch := first | assumption | omega | rfl | exact Nat.le_of_ble_eq_true rfl | decide) only [r106_0, r106_1, r106_2, r106_5, r106_8, r106_10, r106_11, r106_12, r106_13, r106_14, r106_17, r106_20, r106_23, r106_25, r106_26, r106_27, r106_30, r106_31, r106_32, r106_35, r106_36, r106_37, r106_40, r106_41, r106_42, r106_45, r106_46, r106_49, r106_50, r106_51, r106_52, r106_55, r106_56, r106_59, r106_60, r106_61, r106_62, r106_65, r106_66, r106_69, r106_70, am_gf_42_8, am_ai_46, am_nl_i, am_nl_r, am_nl_n, am_nl_l, Option.bind_some, Option.toList_some, Option.toList_none, List.cons_append, List.nil_append, if_true, if_false, Bool.false_eq_true, Int.reduceEq, Int.reduceAdd, ↓reduceIte, m_isP_s hn h12 hp, e10, c_in04, in_kd, hk, q5, true_or]
      · by_cases h1 : k = s_kd T j
        · rw [if_pos (Or.inr (Or.inl h1))]
          rw [h1] at h0 hk ⊢
          simp (disch := first | assumption | omega | rfl | exact Nat.le_of_ble_eq_true rfl | decide) only [r106_0, r106_1, r106_2, r106_5, r106_8, r106_10, r106_11, r106_12, r106_13, r106_14, r106_17, r106_20, r106_23, r106_25, r106_26, r106_27, r106_30, r106_31, r106_32, r106_35, r106_36, r106_37, r106_40, r106_41, r106_42, r106_45, r106_46, r106_49, r106_50, r106_51, r106_52, r106_55, r106_56, r106_59, r106_60, r106_61, r106_62, r106_65, r106_66, r106_69, r106_70, am_gf_42_8, am_ai_46, am_nl_i, am_nl_r, am_nl_n, am_nl_l, Option.bind_some, Option.toList_some, Option.toList_none, List.cons_append, List.nil_append, if_true, if_false, Bool.false_eq_true, Int.reduceEq, Int.reduceAdd, ↓reduceIte, m_isP_s hn h12 hp, e10, c_in04, in_kd, hk, q5, h0]
        · by_cases h2 : k = 2
          · subst h2
            by_cases h4 : s_kd T j = 4
            · rw [if_pos (Or.inr (Or.inr ⟨rfl, h4⟩))]
              have e24 : ¬ (2 : Int32) = 4 := by decide
              simp (disch := first | assumption | omega | rfl | exact Nat.le_of_ble_eq_true rfl | decide) only [r106_0, r106_1, r106_2, r106_5, r106_8, r106_10, r106_11, r106_12, r106_13, r106_14, r106_17, r106_20, r106_23, r106_25, r106_26, r106_27, r106_30, r106_31, r106_32, r106_35, r106_36, r106_37, r106_40, r106_41, r106_42, r106_45, r106_46, r106_49, r106_50, r106_51, r106_52, r106_55, r106_56, r106_59, r106_60, r106_61, r106_62, r106_65, r106_66, r106_69, r106_70, am_gf_42_8, am_ai_46, am_nl_i, am_nl_r, am_nl_n, am_nl_l, Option.bind_some, Option.toList_some, Option.toList_none, List.cons_append, List.nil_append, if_true, if_false, Bool.false_eq_true, Int.reduceEq, Int.reduceAdd, ↓reduceIte, m_isP_s hn h12 hp, e10, c_in04, in_kd, hk, q5, h0, h1, h4, e24]
            · rw [if_neg (by rintro (q | q | q); exact h0 q; exact h1 q; exact h4 q.2)]
              simp (disch := first | assumption | omega | rfl | exact Nat.le_of_ble_eq_true rfl | decide) only [r106_0, r106_1, r106_2, r106_5, r106_8, r106_10, r106_11, r106_12, r106_13, r106_14, r106_17, r106_20, r106_23, r106_25, r106_26, r106_27, r106_30, r106_31, r106_32, r106_35, r106_36, r106_37, r106_40, r106_41, r106_42, r106_45, r106_46, r106_49, r106_50, r106_51, r106_52, r106_55, r106_56, r106_59, r106_60, r106_61, r106_62, r106_65, r106_66, r106_69, r106_70, am_gf_42_8, am_ai_46, am_nl_i, am_nl_r, am_nl_n, am_nl_l, Option.bind_some, Option.toList_some, Option.toList_none, List.cons_append, List.nil_append, if_true, if_false, Bool.false_eq_true, Int.reduceEq, Int.reduceAdd, ↓reduceIte, m_isP_s hn h12 hp, e10, c_in04, in_kd, hk, q5, h0, h1, h4]
          · rw [if_neg (by rintro (q | q | q); exact h0 q; exact h1 q; exact h2 q.1)]
            simp (disch := first | assumption | omega | rfl | exact Nat.le_of_ble_eq_true rfl | decide) only [r106_0, r106_1, r106_2, r106_5, r106_8, r106_10, r106_11, r106_12, r106_13, r106_14, r106_17, r106_20, r106_23, r106_25, r106_26, r106_27, r106_30, r106_31, r106_32, r106_35, r106_36, r106_37, r106_40, r106_41, r106_42, r106_45, r106_46, r106_49, r106_50, r106_51, r106_52, r106_55, r106_56, r106_59, r106_60, r106_61, r106_62, r106_65, r106_66, r106_69, r106_70, am_gf_42_8, am_ai_46, am_nl_i, am_nl_r, am_nl_n, am_nl_l, Option.bind_some, Option.toList_some, Option.toList_none, List.cons_append, List.nil_append, if_true, if_false, Bool.false_eq_true, Int.reduceEq, Int.reduceAdd, ↓reduceIte, m_isP_s hn h12 hp, e10, c_in04, in_kd, hk, q5, h0, h1, h2]
theorem nm_in (z : Int32) : nmB z = inS z 0 5 := by
  unfold nmB inS
  by_cases h1 : z < 0
  · rw [if_pos h1, if_pos h1]
  · rw [if_neg h1, if_neg h1]
    obtain ⟨j, hj, rfl⟩ := nI_of h1
    have e1 : (6 ≤ nI j) = (6 ≤ j) := ni_le (a := 6) (by omega) (by omega)
    have e2 : (5 < nI j) = (5 < j) := ni_lt (a := 5) (by omega) (by omega)
    by_cases h : 6 ≤ j
    · rw [if_pos (by rw [e1]; exact h), if_pos (by rw [e2]; omega)]
    · rw [if_neg (by rw [e1]; exact h), if_neg (by rw [e2]; omega)]
theorem nm_inm (z : Int32) : (¬ z = -1 ∧ nmB z = 0) = (inS z (-1) 5 = 0) := by
  apply propext
  rw [nm_in]
  unfold inS
  by_cases h : z = -1
  · subst h; decide
  · have e : (z < -1) = (z < 0) := by
      apply propext
      rw [Int32.lt_iff_toInt_lt, Int32.lt_iff_toInt_lt]
      have e1 : (-1 : Int32).toInt = -1 := by decide
      have e2 : (0 : Int32).toInt = 0 := by decide
      have h3 : ¬ z.toInt = -1 := fun q => h (Int32.toInt_inj.mp (by rw [q, e1]))
      rw [e1, e2]
      omega
    simp only [e, h, not_false_eq_true, true_and]
theorem m_call {d : Nat} {σ : am_St} {τ : Int64} {T : tS} {p v : Int32} (hR : RM σ T) (hW : WF T) : ∃ σ' : am_St, am_call (d + 2) 107 [.ref 42, .int p, .int v] σ τ = some (some (.int (sp_call T p v).1), σ', τ) ∧ RM σ' (sp_call T p v).2 ∧ ∀ c, c < 42 → σ' c = σ c := by
  show ∃ σ' : am_St, am_run (d + 2) 107 0 [.ref 42, .int p, .int v, .null] [] σ τ = _ ∧ _
  unfold sp_call
  have hn := hR.1
  have h12 := hW.1
  cases hp : idx (s_n T) p with
  | none =>
    refine ⟨σ, ?_, hR, fun _ _ => rfl⟩
    simp (disch := first | assumption | omega | rfl | exact Nat.le_of_ble_eq_true rfl | decide) only [r107_0, r107_1, r107_2, r107_5, r107_8, r107_10, r107_11, r107_12, r107_15, r107_16, r107_17, r107_20, r107_23, r107_25, r107_26, r107_27, r107_28, r107_29, r107_32, r107_35, r107_38, r107_40, r107_41, r107_42, r107_45, r107_46, r107_47, r107_48, r107_49, r107_52, r107_53, r107_54, r107_55, r107_56, am_gf_42_8, am_gf_42_12, am_ai_46, am_ai_50, am_nl_i, am_nl_r, am_nl_n, am_nl_l, Option.bind_some, Option.toList_some, Option.toList_none, List.cons_append, List.nil_append, if_true, if_false, Bool.false_eq_true, Int.reduceEq, Int.reduceAdd, ↓reduceIte, m_isP_n hn h12 hp]
  | some j =>
    obtain ⟨hj, rfl⟩ := idx_some h12 hp
    have hj12 : j < 12 := by omega
    obtain ⟨q46, -, -, -, q50, -⟩ := hR.2.1 j hj
    dsimp only
    cases ha : s_al T j with
    | false =>
      have hk1 : ¬ (s_kd T j = 1 ∨ s_kd T j = 3) := by rw [← alK_iff]; show ¬ s_al T j = true; rw [ha]; decide
      refine ⟨σ, ?_, hR, fun _ _ => rfl⟩
      simp (disch := first | assumption | omega | rfl | exact Nat.le_of_ble_eq_true rfl | decide) only [r107_0, r107_1, r107_2, r107_5, r107_8, r107_10, r107_11, r107_12, r107_15, r107_16, r107_17, r107_20, r107_23, r107_25, r107_26, r107_27, r107_28, r107_29, r107_32, r107_35, r107_38, r107_40, r107_41, r107_42, r107_45, r107_46, r107_47, r107_48, r107_49, r107_52, r107_53, r107_54, r107_55, r107_56, am_gf_42_8, am_gf_42_12, am_ai_46, am_ai_50, am_nl_i, am_nl_r, am_nl_n, am_nl_l, Option.bind_some, Option.toList_some, Option.toList_none, List.cons_append, List.nil_append, if_true, if_false, Bool.false_eq_true, Int.reduceEq, Int.reduceAdd, ↓reduceIte, m_isP_s hn h12 hp, e10, q46, m_isAlone, hk1]
    | true =>
      have hk1 : s_kd T j = 1 ∨ s_kd T j = 3 := by rw [← alK_iff]; exact ha
      rw [if_neg (show ¬ true = false by decide), nm_in]
      by_cases hv : inS v 0 5 = 0
      · rw [if_pos hv]
        refine ⟨σ, ?_, hR, fun _ _ => rfl⟩
        simp (disch := first | assumption | omega | rfl | exact Nat.le_of_ble_eq_true rfl | decide) only [r107_0, r107_1, r107_2, r107_5, r107_8, r107_10, r107_11, r107_12, r107_15, r107_16, r107_17, r107_20, r107_23, r107_25, r107_26, r107_27, r107_28, r107_29, r107_32, r107_35, r107_38, r107_40, r107_41, r107_42, r107_45, r107_46, r107_47, r107_48, r107_49, r107_52, r107_53, r107_54, r107_55, r107_56, am_gf_42_8, am_gf_42_12, am_ai_46, am_ai_50, am_nl_i, am_nl_r, am_nl_n, am_nl_l, Option.bind_some, Option.toList_some, Option.toList_none, List.cons_append, List.nil_append, if_true, if_false, Bool.false_eq_true, Int.reduceEq, Int.reduceAdd, ↓reduceIte, m_isP_s hn h12 hp, e10, q46, m_isAlone, hk1, c_in05, hv]
      · rw [if_neg hv]
        refine ⟨am_up σ 50 j v, ?_, ?_, fun c hc => am_up_ne (by omega)⟩
        · simp (disch := first | assumption | omega | rfl | exact Nat.le_of_ble_eq_true rfl | decide) only [r107_0, r107_1, r107_2, r107_5, r107_8, r107_10, r107_11, r107_12, r107_15, r107_16, r107_17, r107_20, r107_23, r107_25, r107_26, r107_27, r107_28, r107_29, r107_32, r107_35, r107_38, r107_40, r107_41, r107_42, r107_45, r107_46, r107_47, r107_48, r107_49, r107_52, r107_53, r107_54, r107_55, r107_56, am_gf_42_8, am_gf_42_12, am_ai_46, am_ai_50, am_nl_i, am_nl_r, am_nl_n, am_nl_l, Option.bind_some, Option.toList_some, Option.toList_none, List.cons_append, List.nil_append, if_true, if_false, Bool.false_eq_true, Int.reduceEq, Int.reduceAdd, ↓reduceIte, m_isP_s hn h12 hp, e10, q46, m_isAlone, hk1, c_in05, hv, q50]
        · obtain ⟨r1, r2, r3⟩ := hR
          refine ⟨by rw [am_up_ne (by decide)]; exact r1, fun i hi => ?_, by simp (disch := decide) only [am_up_ne]; exact r3⟩
          obtain ⟨b1, b2, b3, b4, b5, b6⟩ := r2 i hi
          simp (disch := decide) only [am_up_ne, am_up_eq]
          refine ⟨b1, b2, b3, b4, ?_, b6⟩
          show upd (σ 50) j v i = upd (s_tl T) j v i
          unfold upd
          split
          · rfl
          · exact b5
theorem m_write {d : Nat} {σ : am_St} {τ : Int64} {T : tS} {p v : Int32} (hR : RM σ T) (hW : WF T) : ∃ σ' : am_St, am_call (d + 2) 108 [.ref 42, .int p, .int v] σ τ = some (some (.int (sp_write T p v).1), σ', τ) ∧ RM σ' (sp_write T p v).2 ∧ ∀ c, c < 42 → σ' c = σ c := by
  show ∃ σ' : am_St, am_run (d + 2) 108 0 [.ref 42, .int p, .int v, .null] [] σ τ = _ ∧ _
  unfold sp_write
  have hn := hR.1
  have h12 := hW.1
  cases hp : idx (s_n T) p with
  | none =>
    refine ⟨σ, ?_, hR, fun _ _ => rfl⟩
    simp (disch := first | assumption | omega | rfl | exact Nat.le_of_ble_eq_true rfl | decide) only [r108_0, r108_1, r108_2, r108_5, r108_8, r108_10, r108_11, r108_12, r108_13, r108_16, r108_19, r108_22, r108_25, r108_27, r108_28, r108_29, r108_32, r108_33, r108_34, r108_35, r108_36, r108_39, r108_40, r108_41, r108_42, r108_43, am_gf_42_13, am_ai_51, am_nl_i, am_nl_r, am_nl_n, am_nl_l, Option.bind_some, Option.toList_some, Option.toList_none, List.cons_append, List.nil_append, if_true, if_false, Bool.false_eq_true, Int.reduceEq, Int.reduceAdd, ↓reduceIte, m_isP_n hn h12 hp]
  | some j =>
    obtain ⟨hj, rfl⟩ := idx_some h12 hp
    have hj12 : j < 12 := by omega
    obtain ⟨-, -, -, -, -, q51, -⟩ := hR.2.1 j hj
    dsimp only
    by_cases hv : inS v (-1) 5 = 0
    · rw [if_pos (by rw [nm_inm]; exact hv)]
      refine ⟨σ, ?_, hR, fun _ _ => rfl⟩
      simp (disch := first | assumption | omega | rfl | exact Nat.le_of_ble_eq_true rfl | decide) only [r108_0, r108_1, r108_2, r108_5, r108_8, r108_10, r108_11, r108_12, r108_13, r108_16, r108_19, r108_22, r108_25, r108_27, r108_28, r108_29, r108_32, r108_33, r108_34, r108_35, r108_36, r108_39, r108_40, r108_41, r108_42, r108_43, am_gf_42_13, am_ai_51, am_nl_i, am_nl_r, am_nl_n, am_nl_l, Option.bind_some, Option.toList_some, Option.toList_none, List.cons_append, List.nil_append, if_true, if_false, Bool.false_eq_true, Int.reduceEq, Int.reduceAdd, ↓reduceIte, m_isP_s hn h12 hp, e10, c_inm5, hv]
    · rw [if_neg (by rw [nm_inm]; exact hv)]
      refine ⟨am_up σ 51 j v, ?_, ?_, fun c hc => am_up_ne (by omega)⟩
      · simp (disch := first | assumption | omega | rfl | exact Nat.le_of_ble_eq_true rfl | decide) only [r108_0, r108_1, r108_2, r108_5, r108_8, r108_10, r108_11, r108_12, r108_13, r108_16, r108_19, r108_22, r108_25, r108_27, r108_28, r108_29, r108_32, r108_33, r108_34, r108_35, r108_36, r108_39, r108_40, r108_41, r108_42, r108_43, am_gf_42_13, am_ai_51, am_nl_i, am_nl_r, am_nl_n, am_nl_l, Option.bind_some, Option.toList_some, Option.toList_none, List.cons_append, List.nil_append, if_true, if_false, Bool.false_eq_true, Int.reduceEq, Int.reduceAdd, ↓reduceIte, m_isP_s hn h12 hp, e10, c_inm5, hv, q51]
      · obtain ⟨r1, r2, r3⟩ := hR
        refine ⟨by rw [am_up_ne (by decide)]; exact r1, fun i hi => ?_, by simp (disch := decide) only [am_up_ne]; exact r3⟩
        obtain ⟨b1, b2, b3, b4, b5, b6, b7⟩ := r2 i hi
        simp (disch := decide) only [am_up_ne, am_up_eq]
        refine ⟨b1, b2, b3, b4, b5, ?_, b7⟩
        show upd (σ 51) j v i = upd (s_wr T) j v i
        unfold upd
        split
        · rfl
        · exact b6
theorem m_alive_loop {d n : Nat} {σ : am_St} {τ : Int64} (hn : σ 42 6 = nI n) (h12 : n ≤ 12) (hl : ∀ j, j < n → σ 52 j = 0 ∨ σ 52 j = 1) : ∀ k i, i + k = n → am_run d 109 4 [.ref 42, .int (nI (cnt (fun j => !decide (σ 52 j = 0)) i)), .int (nI i)] [] σ τ = some (some (.int (nI (cnt (fun j => !decide (σ 52 j = 0)) n))), σ, τ) := by
  intro k
  induction k with
  | zero =>
    intro i hi
    have e : i = n := by omega
    subst e
    rw [r109_4]
    simp (disch := first | assumption | omega | rfl | exact Nat.le_of_ble_eq_true rfl | decide) only [r109_0, r109_1, r109_2, r109_3, r109_5, r109_6, r109_9, r109_12, r109_13, r109_14, r109_17, r109_18, r109_19, r109_20, r109_21, r109_24, r109_27, r109_28, am_gf_42_6, am_gf_42_14, am_ai_52, am_nl_i, am_nl_r, am_nl_n, am_nl_l, Option.bind_some, Option.toList_some, Option.toList_none, List.cons_append, List.nil_append, if_true, if_false, Bool.false_eq_true, Int.reduceEq, Int.reduceAdd, ↓reduceIte, hn, i_rf]
  | succ k ih =>
    intro i hi
    have hc : ¬ n ≤ i := by omega
    have hi12 : i < 12 := by omega
    have ea : ∀ x : Int32, x + 0 = x := fun x => by simp
    rw [← ih (i + 1) (by omega), r109_4, cnt_s]
    rcases hl i (by omega) with h | h
    · simp (disch := first | assumption | omega | rfl | exact Nat.le_of_ble_eq_true rfl | decide) only [r109_0, r109_1, r109_2, r109_3, r109_5, r109_6, r109_9, r109_12, r109_13, r109_14, r109_17, r109_18, r109_19, r109_20, r109_21, r109_24, r109_27, r109_28, am_gf_42_6, am_gf_42_14, am_ai_52, am_nl_i, am_nl_r, am_nl_n, am_nl_l, Option.bind_some, Option.toList_some, Option.toList_none, List.cons_append, List.nil_append, if_true, if_false, Bool.false_eq_true, Int.reduceEq, Int.reduceAdd, ↓reduceIte, hn, ni_le, hc, h, nI_1, ea, decide_true, Bool.not_true, Nat.add_zero]
    · simp (disch := first | assumption | omega | rfl | exact Nat.le_of_ble_eq_true rfl | decide) only [r109_0, r109_1, r109_2, r109_3, r109_5, r109_6, r109_9, r109_12, r109_13, r109_14, r109_17, r109_18, r109_19, r109_20, r109_21, r109_24, r109_27, r109_28, am_gf_42_6, am_gf_42_14, am_ai_52, am_nl_i, am_nl_r, am_nl_n, am_nl_l, Option.bind_some, Option.toList_some, Option.toList_none, List.cons_append, List.nil_append, if_true, if_false, Bool.false_eq_true, Int.reduceEq, Int.reduceAdd, ↓reduceIte, hn, ni_le, hc, h, nI_1, e10, decide_false, Bool.not_false]
theorem m_aliveMany {d n : Nat} {σ : am_St} {τ : Int64} (hn : σ 42 6 = nI n) (h12 : n ≤ 12) (hl : ∀ j, j < n → σ 52 j = 0 ∨ σ 52 j = 1) : am_call d 109 [.ref 42] σ τ = some (some (.int (nI (cnt (fun j => !decide (σ 52 j = 0)) n))), σ, τ) := by
  show am_run d 109 0 [.ref 42, .null, .null] [] σ τ = _
  simp (disch := first | assumption | omega | rfl | exact Nat.le_of_ble_eq_true rfl | decide) only [r109_0, r109_1, r109_2, r109_3, r109_5, r109_6, r109_9, r109_12, r109_13, r109_14, r109_17, r109_18, r109_19, r109_20, r109_21, r109_24, r109_27, r109_28, am_gf_42_6, am_gf_42_14, am_ai_52, am_nl_i, am_nl_r, am_nl_n, am_nl_l, Option.bind_some, Option.toList_some, Option.toList_none, List.cons_append, List.nil_append, if_true, if_false, Bool.false_eq_true, Int.reduceEq, Int.reduceAdd, ↓reduceIte]
  exact m_alive_loop hn h12 hl n 0 (by omega)
theorem m_dies {d : Nat} {σ : am_St} {τ : Int64} {T : tS} {p : Int32} (hR : RM σ T) (hW : WF T) : ∃ σ' : am_St, am_call (d + 2) 110 [.ref 42, .int p] σ τ = some (some (.int (sp_dies T p).1), σ', τ) ∧ RM σ' (sp_dies T p).2 ∧ ∀ c, c < 42 → σ' c = σ c := by
  show ∃ σ' : am_St, am_run (d + 2) 110 0 [.ref 42, .int p] [] σ τ = _ ∧ _
  unfold sp_dies
  have hn := hR.1
  have h12 := hW.1
  cases hp : idx (s_n T) p with
  | none =>
    refine ⟨σ, ?_, hR, fun _ _ => rfl⟩
    simp (disch := first | assumption | omega | rfl | exact Nat.le_of_ble_eq_true rfl | decide) only [r110_0, r110_1, r110_2, r110_5, r110_8, r110_10, r110_11, r110_12, r110_15, r110_16, r110_17, r110_20, r110_22, r110_23, r110_24, r110_27, r110_28, r110_29, r110_30, r110_31, r110_34, am_gf_42_14, am_ai_52, am_nl_i, am_nl_r, am_nl_n, am_nl_l, Option.bind_some, Option.toList_some, Option.toList_none, List.cons_append, List.nil_append, if_true, if_false, Bool.false_eq_true, Int.reduceEq, Int.reduceAdd, ↓reduceIte, m_isP_n hn h12 hp]
  | some j =>
    obtain ⟨hj, rfl⟩ := idx_some h12 hp
    have hj12 : j < 12 := by omega
    obtain ⟨-, -, -, -, -, -, q52, -⟩ := hR.2.1 j hj
    dsimp only
    by_cases hv : s_lv T j = 0
    · rw [if_pos hv]
      rw [hv] at q52
      refine ⟨σ, ?_, hR, fun _ _ => rfl⟩
      simp (disch := first | assumption | omega | rfl | exact Nat.le_of_ble_eq_true rfl | decide) only [r110_0, r110_1, r110_2, r110_5, r110_8, r110_10, r110_11, r110_12, r110_15, r110_16, r110_17, r110_20, r110_22, r110_23, r110_24, r110_27, r110_28, r110_29, r110_30, r110_31, r110_34, am_gf_42_14, am_ai_52, am_nl_i, am_nl_r, am_nl_n, am_nl_l, Option.bind_some, Option.toList_some, Option.toList_none, List.cons_append, List.nil_append, if_true, if_false, Bool.false_eq_true, Int.reduceEq, Int.reduceAdd, ↓reduceIte, m_isP_s hn h12 hp, e10, q52]
    · rw [if_neg hv]
      have hz : ¬ σ 52 j = 0 := by rw [q52]; exact hv
      have hal : ∀ i, i < s_n T → am_up σ 52 j 0 52 i = upd (s_lv T) j 0 i := fun i hi => by
        rw [am_up_eq]
        unfold upd
        split
        · rfl
        · exact (hR.2.1 i hi).2.2.2.2.2.2.1
      have hl : am_call (d + 1) 109 [.ref 42] (am_up σ 52 j 0) τ = some (some (.int (nI (cnt (fun i => !decide (upd (s_lv T) j 0 i = 0)) (s_n T)))), am_up σ 52 j 0, τ) := by
        rw [m_aliveMany (n := s_n T) (by rw [am_up_ne (by decide)]; exact hn) h12 (fun i hi => by
          rw [hal i hi]
          unfold upd
          split
          · exact Or.inl rfl
          · exact (hW.2.1 i hi).2.2.2.2)]
        rw [cnt_congr (Q := fun i => !decide (upd (s_lv T) j 0 i = 0)) (fun i hi => by rw [hal i hi])]
      refine ⟨am_up σ 52 j 0, ?_, ?_, fun c hc => am_up_ne (by omega)⟩
      · simp (disch := first | assumption | omega | rfl | exact Nat.le_of_ble_eq_true rfl | decide) only [r110_0, r110_1, r110_2, r110_5, r110_8, r110_10, r110_11, r110_12, r110_15, r110_16, r110_17, r110_20, r110_22, r110_23, r110_24, r110_27, r110_28, r110_29, r110_30, r110_31, r110_34, am_gf_42_14, am_ai_52, am_nl_i, am_nl_r, am_nl_n, am_nl_l, Option.bind_some, Option.toList_some, Option.toList_none, List.cons_append, List.nil_append, if_true, if_false, Bool.false_eq_true, Int.reduceEq, Int.reduceAdd, ↓reduceIte, m_isP_s hn h12 hp, e10, hz, hl]
      · obtain ⟨r1, r2, r3⟩ := hR
        refine ⟨by rw [am_up_ne (by decide)]; exact r1, fun i hi => ?_, by simp (disch := decide) only [am_up_ne]; exact r3⟩
        obtain ⟨b1, b2, b3, b4, b5, b6, b7, b8⟩ := r2 i hi
        have := hal i hi
        simp (disch := decide) only [am_up_ne, am_up_eq]
        rw [am_up_eq] at this
        exact ⟨b1, b2, b3, b4, b5, b6, this, b8⟩
theorem m_tw_loop {d n : Nat} {σ : am_St} {τ : Int64} {v1 : Value} (hv : am_nl v1 = v1) (hn : σ 42 6 = nI n) (h12 : n ≤ 12) : ∀ k i, i + k = n → am_run d 111 15 [.ref 42, v1, .int (nI i)] [] σ τ = some (some (.int (ff (wrB (σ 54) (σ 51)) k i)), σ, τ) := by
  intro k
  induction k with
  | zero =>
    intro i hi
    have e : i = n := by omega
    subst e
    rw [r111_15]
    simp (disch := first | assumption | omega | rfl | exact Nat.le_of_ble_eq_true rfl | decide) only [r111_0, r111_1, r111_4, r111_5, r111_8, r111_9, r111_12, r111_13, r111_14, r111_16, r111_17, r111_20, r111_23, r111_24, r111_27, r111_28, r111_29, r111_30, r111_33, r111_34, r111_37, r111_38, r111_39, r111_40, r111_43, r111_44, r111_45, r111_48, r111_49, r111_50, r111_53, r111_56, r111_57, am_gf_42_6, am_gf_42_13, am_gf_42_16, am_ai_51, am_ai_54, am_nl_i, am_nl_r, am_nl_n, am_nl_l, Option.bind_some, Option.toList_some, Option.toList_none, List.cons_append, List.nil_append, if_true, if_false, Bool.false_eq_true, Int.reduceEq, Int.reduceAdd, ↓reduceIte, hn, i_rf, ff]
  | succ k ih =>
    intro i hi
    have hc : ¬ n ≤ i := by omega
    have hi12 : i < 12 := by omega
    rw [r111_15]
    unfold ff
    by_cases h1 : σ 51 i = -1
    · have hw : wrB (σ 54) (σ 51) i = false := by unfold wrB; rw [decide_eq_true h1]; rfl
      simp (disch := first | assumption | omega | rfl | exact Nat.le_of_ble_eq_true rfl | decide) only [r111_0, r111_1, r111_4, r111_5, r111_8, r111_9, r111_12, r111_13, r111_14, r111_16, r111_17, r111_20, r111_23, r111_24, r111_27, r111_28, r111_29, r111_30, r111_33, r111_34, r111_37, r111_38, r111_39, r111_40, r111_43, r111_44, r111_45, r111_48, r111_49, r111_50, r111_53, r111_56, r111_57, am_gf_42_6, am_gf_42_13, am_gf_42_16, am_ai_51, am_ai_54, am_nl_i, am_nl_r, am_nl_n, am_nl_l, Option.bind_some, Option.toList_some, Option.toList_none, List.cons_append, List.nil_append, if_true, if_false, Bool.false_eq_true, Int.reduceEq, Int.reduceAdd, ↓reduceIte, hn, ni_le, hc, h1, hw, nI_1, hv, ih (i + 1) (by omega)]
    · by_cases h2 : σ 51 i = σ 54 i
      · have hw : wrB (σ 54) (σ 51) i = false := by unfold wrB; rw [decide_eq_true h2, Bool.not_true, Bool.and_false]
        have h1' : ¬ σ 54 i = -1 := by rw [← h2]; exact h1
        simp (disch := first | assumption | omega | rfl | exact Nat.le_of_ble_eq_true rfl | decide) only [r111_0, r111_1, r111_4, r111_5, r111_8, r111_9, r111_12, r111_13, r111_14, r111_16, r111_17, r111_20, r111_23, r111_24, r111_27, r111_28, r111_29, r111_30, r111_33, r111_34, r111_37, r111_38, r111_39, r111_40, r111_43, r111_44, r111_45, r111_48, r111_49, r111_50, r111_53, r111_56, r111_57, am_gf_42_6, am_gf_42_13, am_gf_42_16, am_ai_51, am_ai_54, am_nl_i, am_nl_r, am_nl_n, am_nl_l, Option.bind_some, Option.toList_some, Option.toList_none, List.cons_append, List.nil_append, if_true, if_false, Bool.false_eq_true, Int.reduceEq, Int.reduceAdd, ↓reduceIte, hn, ni_le, hc, h1', h2, hw, nI_1, hv, ih (i + 1) (by omega)]
      · have hw : wrB (σ 54) (σ 51) i = true := by unfold wrB; rw [decide_eq_false h1, decide_eq_false h2]; rfl
        simp (disch := first | assumption | omega | rfl | exact Nat.le_of_ble_eq_true rfl | decide) only [r111_0, r111_1, r111_4, r111_5, r111_8, r111_9, r111_12, r111_13, r111_14, r111_16, r111_17, r111_20, r111_23, r111_24, r111_27, r111_28, r111_29, r111_30, r111_33, r111_34, r111_37, r111_38, r111_39, r111_40, r111_43, r111_44, r111_45, r111_48, r111_49, r111_50, r111_53, r111_56, r111_57, am_gf_42_6, am_gf_42_13, am_gf_42_16, am_ai_51, am_ai_54, am_nl_i, am_nl_r, am_nl_n, am_nl_l, Option.bind_some, Option.toList_some, Option.toList_none, List.cons_append, List.nil_append, if_true, if_false, Bool.false_eq_true, Int.reduceEq, Int.reduceAdd, ↓reduceIte, hn, ni_le, hc, h1, h2, hw]
theorem m_tellWrong {d : Nat} {σ : am_St} {τ : Int64} {T : tS} {x : Int32} (hR : RM σ T) (hW : WF T) : ∃ σ' : am_St, am_call (d + 4) 111 [.ref 42, .int x] σ τ = some (some (.int (if x = 0 then nI (s_er T) else s_fe T)), σ', τ) ∧ ∀ a, (a < 54 ∨ 57 < a) → σ' a = σ a := by
  obtain ⟨σ', g1, g2, g3⟩ := m_rk (d := d) (τ := τ) hR hW
  have hn' : σ' 42 6 = nI (s_n T) := by rw [g2 42 (by omega)]; exact hR.1
  have hwb : ∀ j, j < s_n T → wrB (σ' 54) (σ' 51) j = wrB (s_nm T) (s_wr T) j := fun j hj => by
    unfold wrB
    rw [g3 j hj, g2 51 (by omega), (hR.2.1 j hj).2.2.2.2.2.1]
  refine ⟨σ', ?_, g2⟩
  show am_run (d + 4) 111 0 [.ref 42, .int x, .null] [] σ τ = _
  by_cases h0 : x = 0
  · have hw := m_wrongMany (d := d + 3) (τ := τ) hn' hW.1
    rw [cnt_congr hwb] at hw
    simp (disch := first | assumption | omega | rfl | exact Nat.le_of_ble_eq_true rfl | decide) only [r111_0, r111_1, r111_4, r111_5, r111_8, r111_9, r111_12, r111_13, r111_14, r111_16, r111_17, r111_20, r111_23, r111_24, r111_27, r111_28, r111_29, r111_30, r111_33, r111_34, r111_37, r111_38, r111_39, r111_40, r111_43, r111_44, r111_45, r111_48, r111_49, r111_50, r111_53, r111_56, r111_57, am_gf_42_6, am_gf_42_13, am_gf_42_16, am_ai_51, am_ai_54, am_nl_i, am_nl_r, am_nl_n, am_nl_l, Option.bind_some, Option.toList_some, Option.toList_none, List.cons_append, List.nil_append, if_true, if_false, Bool.false_eq_true, Int.reduceEq, Int.reduceAdd, ↓reduceIte, g1, h0, hw]
    rfl
  · have hw := m_tw_loop (d := d + 4) (τ := τ) (v1 := .int x) rfl hn' hW.1 (s_n T) 0 (by omega)
    rw [ff_congr (s_n T) 0 (fun j _ hj => hwb j (by omega))] at hw
    have e0 : nI 0 = 0 := rfl
    rw [e0] at hw
    simp (disch := first | assumption | omega | rfl | exact Nat.le_of_ble_eq_true rfl | decide) only [r111_0, r111_1, r111_4, r111_5, r111_8, r111_9, r111_12, r111_13, r111_14, r111_16, r111_17, r111_20, r111_23, r111_24, r111_27, r111_28, r111_29, r111_30, r111_33, r111_34, r111_37, r111_38, r111_39, r111_40, r111_43, r111_44, r111_45, r111_48, r111_49, r111_50, r111_53, r111_56, r111_57, am_gf_42_6, am_gf_42_13, am_gf_42_16, am_ai_51, am_ai_54, am_nl_i, am_nl_r, am_nl_n, am_nl_l, Option.bind_some, Option.toList_some, Option.toList_none, List.cons_append, List.nil_append, if_true, if_false, Bool.false_eq_true, Int.reduceEq, Int.reduceAdd, ↓reduceIte, g1, h0, hw]
    rfl
theorem m_wrong {d : Nat} {σ : am_St} {τ : Int64} {T : tS} {x : Int32} (hR : RM σ T) (hW : WF T) : ∃ σ' : am_St, am_call (d + 5) 112 [.ref 42, .int x] σ τ = some (some (.int (sp_wrong T x)), σ', τ) ∧ KM σ σ' := by
  show ∃ σ' : am_St, am_run (d + 5) 112 0 [.ref 42, .int x] [] σ τ = _ ∧ _
  unfold sp_wrong
  by_cases hi : inS x 0 1 = 0
  · refine ⟨σ, ?_, KM.rf⟩
    have hi' := hi
    rw [in_01] at hi'
    rw [if_neg (fun q => hi' (Or.inl q)), if_neg (fun q => hi' (Or.inr q))]
    simp (disch := first | assumption | omega | rfl | exact Nat.le_of_ble_eq_true rfl | decide) only [r112_0, r112_1, r112_2, r112_3, r112_4, r112_7, r112_10, r112_11, r112_12, r112_15, r112_18, r112_20, am_nl_i, am_nl_r, am_nl_n, am_nl_l, Option.bind_some, Option.toList_some, Option.toList_none, List.cons_append, List.nil_append, if_true, if_false, Bool.false_eq_true, Int.reduceEq, Int.reduceAdd, ↓reduceIte, c_in01, hi]
  · obtain ⟨σ', g1, g2⟩ := m_tellWrong (d := d) (τ := τ) (x := x) hR hW
    refine ⟨σ', ?_, KM.of (fun c hc => g2 c (by omega))⟩
    have hi' := hi
    rw [in_01] at hi'
    have h01 : x = 0 ∨ x = 1 := Classical.byContradiction hi'
    have e : (if x = 0 then nI (s_er T) else if x = 1 then s_fe T else -102) = if x = 0 then nI (s_er T) else s_fe T := by
      rcases h01 with rfl | rfl <;> rfl
    rw [e]
    simp (disch := first | assumption | omega | rfl | exact Nat.le_of_ble_eq_true rfl | decide) only [r112_0, r112_1, r112_2, r112_3, r112_4, r112_7, r112_10, r112_11, r112_12, r112_15, r112_18, r112_20, am_nl_i, am_nl_r, am_nl_n, am_nl_l, Option.bind_some, Option.toList_some, Option.toList_none, List.cons_append, List.nil_append, if_true, if_false, Bool.false_eq_true, Int.reduceEq, Int.reduceAdd, ↓reduceIte, c_in01, hi, g1]
