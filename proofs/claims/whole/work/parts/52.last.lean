/-! the reference: lasts, image, restore, count -/
theorem m_la_p {d : Nat} {τ : Int64} {T : tS} {x : Int32} {v4 : Value} (hW : WF T) : ∀ k i (σ : am_St), i + k = s_n T → RM σ T → (∀ j, j < s_n T → σ 54 j = s_nm T j) → ∃ σ' : am_St, am_run (d + 1) 133 8 [.ref 42, .int x, .int (nI (seF (s_nm T) (s_gn T) x i)), .int (nI i), v4] [] σ τ = am_run (d + 1) 133 46 [.ref 42, .int x, .int (nI (seF (s_nm T) (s_gn T) x (s_n T))), .int (nI (s_n T)), v4] [] σ' τ ∧ ∀ c, c ≠ 58 → σ' c = σ c := by
  intro k
  have h12 := hW.1
  induction k with
  | zero =>
    intro i σ hi hR hnm
    have e : i = s_n T := by omega
    subst e
    refine ⟨σ, ?_, fun _ _ => rfl⟩
    rw [r133_8]
    simp (disch := first | assumption | omega | rfl | exact Nat.le_of_ble_eq_true rfl | decide) only [r133_0, r133_1, r133_4, r133_5, r133_6, r133_7, r133_9, r133_10, r133_13, r133_16, r133_17, r133_18, r133_21, r133_22, r133_23, r133_24, r133_27, r133_28, r133_29, r133_30, r133_33, r133_34, r133_37, r133_38, r133_39, r133_40, r133_43, r133_47, r133_48, r133_49, r133_53, r133_55, r133_58, r133_59, r133_60, r133_62, r133_63, r133_64, r133_65, r133_66, r133_67, r133_70, r133_73, r133_74, am_gf_42_6, am_gf_42_16, am_ai_54, am_nl_i, am_nl_r, am_nl_n, am_nl_l, Option.bind_some, Option.toList_some, Option.toList_none, List.cons_append, List.nil_append, if_true, if_false, Bool.false_eq_true, Int.reduceEq, Int.reduceAdd, ↓reduceIte, hR.1, i_rf]
  | succ k ih =>
    intro i σ hi hR hnm
    have hc : ¬ s_n T ≤ i := by omega
    have hin : i < s_n T := by omega
    have hi12 : i < 12 := by omega
    have hn := hR.1
    have e54 := hnm i hin
    have ea : ∀ x : Int32, x ||| 0 = x := i_or0
    by_cases h : s_nm T i = x
    · obtain ⟨σ1, a1, a2⟩ := m_gen (d := d) (τ := τ) hR hW hin
      have hR1 : RM σ1 T := hR.keep (KM.of (fun c hc => a2 c (by omega)))
      obtain ⟨σ', g1, g2⟩ := ih (i + 1) σ1 (by omega) hR1 (fun j hj => by rw [a2 54 (by decide)]; exact hnm j hj)
      refine ⟨σ', ?_, fun c x => by rw [g2 c x, a2 c x]⟩
      have hp := sh_pw (s_gn T i) (gn_lt hW i (by omega))
      rw [← g1, r133_8, seF_s]
      simp (disch := first | assumption | omega | rfl | exact Nat.le_of_ble_eq_true rfl | decide) only [r133_0, r133_1, r133_4, r133_5, r133_6, r133_7, r133_9, r133_10, r133_13, r133_16, r133_17, r133_18, r133_21, r133_22, r133_23, r133_24, r133_27, r133_28, r133_29, r133_30, r133_33, r133_34, r133_37, r133_38, r133_39, r133_40, r133_43, r133_47, r133_48, r133_49, r133_53, r133_55, r133_58, r133_59, r133_60, r133_62, r133_63, r133_64, r133_65, r133_66, r133_67, r133_70, r133_73, r133_74, am_gf_42_6, am_gf_42_16, am_ai_54, am_nl_i, am_nl_r, am_nl_n, am_nl_l, Option.bind_some, Option.toList_some, Option.toList_none, List.cons_append, List.nil_append, if_true, if_false, Bool.false_eq_true, Int.reduceEq, Int.reduceAdd, ↓reduceIte, hn, ni_le, hc, e54, h, a1, hp, ni_or, nI_1]
    · obtain ⟨σ', g1, g2⟩ := ih (i + 1) σ (by omega) hR hnm
      refine ⟨σ', ?_, g2⟩
      rw [← g1, r133_8, seF_s]
      simp (disch := first | assumption | omega | rfl | exact Nat.le_of_ble_eq_true rfl | decide) only [r133_0, r133_1, r133_4, r133_5, r133_6, r133_7, r133_9, r133_10, r133_13, r133_16, r133_17, r133_18, r133_21, r133_22, r133_23, r133_24, r133_27, r133_28, r133_29, r133_30, r133_33, r133_34, r133_37, r133_38, r133_39, r133_40, r133_43, r133_47, r133_48, r133_49, r133_53, r133_55, r133_58, r133_59, r133_60, r133_62, r133_63, r133_64, r133_65, r133_66, r133_67, r133_70, r133_73, r133_74, am_gf_42_6, am_gf_42_16, am_ai_54, am_nl_i, am_nl_r, am_nl_n, am_nl_l, Option.bind_some, Option.toList_some, Option.toList_none, List.cons_append, List.nil_append, if_true, if_false, Bool.false_eq_true, Int.reduceEq, Int.reduceAdd, ↓reduceIte, hn, ni_le, hc, e54, h, ea, nI_1]
theorem pc_bit (m : Nat) {k : Nat} (hk : k < 32) : (nI m >>> (nI k &&& 31)) &&& 1 = nI (m / 2 ^ k % 2) := by
  rw [sr_1 hk, n_bt m hk, Nat.testBit_eq_decide_div_mod_eq]
  have : m / 2 ^ k % 2 = 0 ∨ m / 2 ^ k % 2 = 1 := by omega
  rcases this with h | h
  · rw [h]; rfl
  · rw [h]; rfl
theorem m_la_k {d m : Nat} {σ : am_St} {τ : Int64} {v1 : Value} : ∀ k i, i + k = 12 → am_run d 133 51 [.ref 42, v1, .int (nI m), .int (nI (pcN m i)), .int (nI i)] [] σ τ = some (some (.int (nI (pcN m 12))), σ, τ) := by
  intro k
  induction k with
  | zero =>
    intro i hi
    have e : i = 12 := by omega
    subst e
    rw [r133_51]
    simp (disch := first | assumption | omega | rfl | exact Nat.le_of_ble_eq_true rfl | decide) only [r133_0, r133_1, r133_4, r133_5, r133_6, r133_7, r133_8, r133_9, r133_10, r133_13, r133_16, r133_17, r133_18, r133_21, r133_22, r133_23, r133_24, r133_27, r133_28, r133_29, r133_30, r133_33, r133_34, r133_37, r133_38, r133_39, r133_40, r133_43, r133_46, r133_47, r133_48, r133_49, r133_53, r133_55, r133_58, r133_59, r133_60, r133_62, r133_63, r133_64, r133_65, r133_66, r133_67, r133_70, r133_73, r133_74, am_gf_42_6, am_gf_42_16, am_ai_54, am_nl_i, am_nl_r, am_nl_n, am_nl_l, Option.bind_some, Option.toList_some, Option.toList_none, List.cons_append, List.nil_append, if_true, if_false, Bool.false_eq_true, Int.reduceEq, Int.reduceAdd, ↓reduceIte, show (12 : Int32) = nI 12 from rfl, i_rf]
  | succ k ih =>
    intro i hi
    have hc : ¬ 12 ≤ i := by omega
    have hb := pc_bit m (k := i) (by omega)
    have es : pcN m (i + 1) = pcN m i + m / 2 ^ i % 2 := rfl
    rw [← ih (i + 1) (by omega), r133_51, es]
    simp (disch := first | assumption | omega | rfl | exact Nat.le_of_ble_eq_true rfl | decide) only [r133_0, r133_1, r133_4, r133_5, r133_6, r133_7, r133_8, r133_9, r133_10, r133_13, r133_16, r133_17, r133_18, r133_21, r133_22, r133_23, r133_24, r133_27, r133_28, r133_29, r133_30, r133_33, r133_34, r133_37, r133_38, r133_39, r133_40, r133_43, r133_46, r133_47, r133_48, r133_49, r133_53, r133_55, r133_58, r133_59, r133_60, r133_62, r133_63, r133_64, r133_65, r133_66, r133_67, r133_70, r133_73, r133_74, am_gf_42_6, am_gf_42_16, am_ai_54, am_nl_i, am_nl_r, am_nl_n, am_nl_l, Option.bind_some, Option.toList_some, Option.toList_none, List.cons_append, List.nil_append, if_true, if_false, Bool.false_eq_true, Int.reduceEq, Int.reduceAdd, ↓reduceIte, show (12 : Int32) = nI 12 from rfl, ni_le, hc, hb, nI_add, nI_1]
theorem m_lastsOf {d : Nat} {σ : am_St} {τ : Int64} {T : tS} {x : Int32} (hR : RM σ T) (hW : WF T) : ∃ σ' : am_St, am_call (d + 4) 133 [.ref 42, .int x] σ τ = some (some (.int (nI (s_la T x))), σ', τ) ∧ ∀ a, (a < 54 ∨ 58 < a) → σ' a = σ a := by
  obtain ⟨σ1, a1, a2, a3⟩ := m_rk (d := d) (τ := τ) hR hW
  have hR1 : RM σ1 T := hR.keep (KM.of (fun c hc => a2 c (by omega)))
  obtain ⟨σ', g1, g2⟩ := m_la_p (d := d + 3) (τ := τ) (x := x) (v4 := .null) hW (s_n T) 0 σ1 (by omega) hR1 a3
  refine ⟨σ', ?_, fun a h => by rw [g2 a (by omega), a2 a (by omega)]⟩
  show am_run (d + 4) 133 0 [.ref 42, .int x, .null, .null, .null] [] σ τ = _
  have e0 : nI 0 = 0 := rfl
  have es : seF (s_nm T) (s_gn T) x 0 = 0 := rfl
  rw [es, e0] at g1
  have q := m_la_k (d := d + 4) (m := seF (s_nm T) (s_gn T) x (s_n T)) (σ := σ') (τ := τ) (v1 := .int x) 12 0 rfl
  have ep : pcN (seF (s_nm T) (s_gn T) x (s_n T)) 0 = 0 := rfl
  rw [ep, e0] at q
  simp (disch := first | assumption | omega | rfl | exact Nat.le_of_ble_eq_true rfl | decide) only [r133_0, r133_1, r133_4, r133_5, r133_6, r133_7, r133_9, r133_10, r133_13, r133_16, r133_17, r133_18, r133_21, r133_22, r133_23, r133_24, r133_27, r133_28, r133_29, r133_30, r133_33, r133_34, r133_37, r133_38, r133_39, r133_40, r133_43, r133_47, r133_48, r133_49, r133_53, r133_55, r133_58, r133_59, r133_60, r133_62, r133_63, r133_64, r133_65, r133_66, r133_67, r133_70, r133_73, r133_74, am_gf_42_6, am_gf_42_16, am_ai_54, am_nl_i, am_nl_r, am_nl_n, am_nl_l, Option.bind_some, Option.toList_some, Option.toList_none, List.cons_append, List.nil_append, if_true, if_false, Bool.false_eq_true, Int.reduceEq, Int.reduceAdd, ↓reduceIte, a1]
  rw [g1, r133_46]
  simp (disch := first | assumption | omega | rfl | exact Nat.le_of_ble_eq_true rfl | decide) only [r133_0, r133_1, r133_4, r133_5, r133_6, r133_7, r133_9, r133_10, r133_13, r133_16, r133_17, r133_18, r133_21, r133_22, r133_23, r133_24, r133_27, r133_28, r133_29, r133_30, r133_33, r133_34, r133_37, r133_38, r133_39, r133_40, r133_43, r133_47, r133_48, r133_49, r133_53, r133_55, r133_58, r133_59, r133_60, r133_62, r133_63, r133_64, r133_65, r133_66, r133_67, r133_70, r133_73, r133_74, am_gf_42_6, am_gf_42_16, am_ai_54, am_nl_i, am_nl_r, am_nl_n, am_nl_l, Option.bind_some, Option.toList_some, Option.toList_none, List.cons_append, List.nil_append, if_true, if_false, Bool.false_eq_true, Int.reduceEq, Int.reduceAdd, ↓reduceIte]
  exact q
theorem in_nm (x : Int32) : (inS x 0 5 = 0) = (nmB x = 0) := by
  apply propext
  unfold inS nmB
  have : (5 < x) ↔ (6 ≤ x) := by
    rw [Int32.lt_iff_toInt_lt, Int32.le_iff_toInt_le]
    have e1 : (5 : Int32).toInt = 5 := by decide
    have e2 : (6 : Int32).toInt = 6 := by decide
    rw [e1, e2]; omega
  simp only [this]
theorem m_lasts {d : Nat} {σ : am_St} {τ : Int64} {T : tS} {x : Int32} (hR : RM σ T) (hW : WF T) : ∃ σ' : am_St, am_call (d + 5) 134 [.ref 42, .int x] σ τ = some (some (.int (sp_lasts T x)), σ', τ) ∧ KM σ σ' := by
  show ∃ σ' : am_St, am_run (d + 5) 134 0 [.ref 42, .int x] [] σ τ = _ ∧ _
  unfold sp_lasts
  by_cases hi : inS x 0 5 = 0
  · refine ⟨σ, ?_, KM.rf⟩
    have hi' := hi
    rw [in_nm] at hi'
    rw [if_pos hi']
    simp (disch := first | assumption | omega | rfl | exact Nat.le_of_ble_eq_true rfl | decide) only [r134_0, r134_1, r134_2, r134_3, r134_6, r134_9, r134_12, r134_13, r134_14, r134_17, r134_20, r134_22, am_nl_i, am_nl_r, am_nl_n, am_nl_l, Option.bind_some, Option.toList_some, Option.toList_none, List.cons_append, List.nil_append, if_true, if_false, Bool.false_eq_true, Int.reduceEq, Int.reduceAdd, ↓reduceIte, c_in05, hi]
  · obtain ⟨σ', g1, g2⟩ := m_lastsOf (d := d) (τ := τ) (x := x) hR hW
    refine ⟨σ', ?_, KM.of (fun c hc => g2 c (by omega))⟩
    have hi' := hi
    rw [in_nm] at hi'
    rw [if_neg hi']
    simp (disch := first | assumption | omega | rfl | exact Nat.le_of_ble_eq_true rfl | decide) only [r134_0, r134_1, r134_2, r134_3, r134_6, r134_9, r134_12, r134_13, r134_14, r134_17, r134_20, r134_22, am_nl_i, am_nl_r, am_nl_n, am_nl_l, Option.bind_some, Option.toList_some, Option.toList_none, List.cons_append, List.nil_append, if_true, if_false, Bool.false_eq_true, Int.reduceEq, Int.reduceAdd, ↓reduceIte, c_in05, hi, g1]
/-! image -/
theorem m_im_loop {d : Nat} {τ : Int64} : ∀ k i (σ : am_St), i + k = 12 → ∃ σ' : am_St, am_run d 135 2 [.ref 42, .int (nI i)] [] σ τ = am_run d 135 60 [.ref 42, .int (nI 12)] [] σ' τ ∧ (∀ c, c ≠ 69 → σ' c = σ c) ∧ (∀ j, i ≤ j → j < 12 → σ' 69 (3 * j) = σ 50 j ∧ σ' 69 (3 * j + 1) = σ 51 j ∧ σ' 69 (3 * j + 2) = σ 52 j) ∧ ∀ j, j < 3 * i → σ' 69 j = σ 69 j := by
  intro k
  induction k with
  | zero =>
    intro i σ hi
    have e : i = 12 := by omega
    subst e
    refine ⟨σ, ?_, fun _ _ => rfl, fun j h1 h2 => by omega, fun _ _ => rfl⟩
    rw [r135_2]
    simp (disch := first | assumption | omega | rfl | exact Nat.le_of_ble_eq_true rfl | decide) only [r135_0, r135_1, r135_3, r135_5, r135_8, r135_9, r135_12, r135_13, r135_14, r135_15, r135_16, r135_19, r135_20, r135_21, r135_22, r135_23, r135_26, r135_27, r135_28, r135_29, r135_30, r135_31, r135_32, r135_35, r135_36, r135_37, r135_38, r135_39, r135_42, r135_43, r135_44, r135_45, r135_46, r135_47, r135_48, r135_51, r135_52, r135_53, r135_54, r135_57, r135_61, r135_62, r135_65, r135_68, r135_69, r135_70, r135_73, r135_76, r135_77, r135_80, am_gf_42_6, am_gf_42_7, am_gf_42_12, am_gf_42_13, am_gf_42_14, am_gf_42_34, am_pf_42_32, am_pf_42_33, am_ai_50, am_ai_51, am_ai_52, am_ai_69, am_nl_i, am_nl_r, am_nl_n, am_nl_l, Option.bind_some, Option.toList_some, Option.toList_none, List.cons_append, List.nil_append, if_true, if_false, Bool.false_eq_true, Int.reduceEq, Int.reduceAdd, ↓reduceIte, show (12 : Int32) = nI 12 from rfl, i_rf]
  | succ k ih =>
    intro i σ hi
    have hc : ¬ 12 ≤ i := by omega
    have hi12 : i < 12 := by omega
    have h0 : 3 * i < 36 := by omega
    have h1 : 3 * i + 1 < 36 := by omega
    have h2 : 3 * i + 2 < 36 := by omega
    obtain ⟨σ', g1, g2, g3, g4⟩ := ih (i + 1) (am_up (am_up (am_up σ 69 (3 * i) (σ 50 i)) 69 (3 * i + 1) (σ 51 i)) 69 (3 * i + 2) (σ 52 i)) (by omega)
    refine ⟨σ', ?_, fun c x => by rw [g2 c x, am_up_ne x, am_up_ne x, am_up_ne x], fun j hj1 hj2 => ?_, fun j hj => ?_⟩
    · have em : nI 3 * nI i = nI (3 * i) := pk_mul 3 i
      have e2 : nI (3 * i) + 2 = nI (3 * i + 2) := nI_add (3 * i) 2
      have e3 : (3 : Int32) * nI i = nI (3 * i) := pk_mul 3 i
      rw [← g1, r135_2]
      simp (disch := first | assumption | omega | rfl | exact Nat.le_of_ble_eq_true rfl | decide) only [r135_0, r135_1, r135_3, r135_5, r135_8, r135_9, r135_12, r135_13, r135_14, r135_15, r135_16, r135_19, r135_20, r135_21, r135_22, r135_23, r135_26, r135_27, r135_28, r135_29, r135_30, r135_31, r135_32, r135_35, r135_36, r135_37, r135_38, r135_39, r135_42, r135_43, r135_44, r135_45, r135_46, r135_47, r135_48, r135_51, r135_52, r135_53, r135_54, r135_57, r135_61, r135_62, r135_65, r135_68, r135_69, r135_70, r135_73, r135_76, r135_77, r135_80, am_gf_42_6, am_gf_42_7, am_gf_42_12, am_gf_42_13, am_gf_42_14, am_gf_42_34, am_pf_42_32, am_pf_42_33, am_ai_50, am_ai_51, am_ai_52, am_ai_69, am_nl_i, am_nl_r, am_nl_n, am_nl_l, Option.bind_some, Option.toList_some, Option.toList_none, List.cons_append, List.nil_append, if_true, if_false, Bool.false_eq_true, Int.reduceEq, Int.reduceAdd, ↓reduceIte, show (12 : Int32) = nI 12 from rfl, ni_le, hc, e3, nI_1, e2, am_up_ne]
    · by_cases h : j = i
      · subst h
        rw [g4 _ (by omega), g4 _ (by omega), g4 _ (by omega)]
        simp only [am_up_eq]
        refine ⟨?_, ?_, ?_⟩
        · rw [pk_un (by omega), pk_un (by omega), pk_us]
        · rw [pk_un (by omega), pk_us]
        · rw [pk_us]
      · have := g3 j (by omega) hj2
        simp (disch := decide) only [am_up_ne] at this
        exact this
    · rw [g4 j (by omega)]
      simp only [am_up_eq]
      rw [pk_un (by omega), pk_un (by omega), pk_un (by omega)]
theorem m_image {d : Nat} {σ : am_St} {τ : Int64} {T : tS} (hR : RM σ T) (hW : WF T) : ∃ σ' : am_St, am_call d 135 [.ref 42] σ τ = some (some (.int (sp_image T).1), σ', τ) ∧ RM σ' (sp_image T).2 ∧ ∀ c, c < 42 → σ' c = σ c := by
  have h12 := hW.1
  obtain ⟨σ1, a1, a2, a3, -⟩ := m_im_loop (d := d) (τ := τ) 12 0 σ rfl
  have k42 : σ1 42 = σ 42 := a2 42 (by decide)
  refine ⟨am_up (am_up σ1 42 32 (σ1 42 6)) 42 33 (σ1 42 7), ?_, ?_, fun c hc => by rw [am_up_ne (by omega), am_up_ne (by omega), a2 c (by omega)]⟩
  · show am_run d 135 0 [.ref 42, .null] [] σ τ = _
    have e0 : nI 0 = 0 := rfl
    rw [e0] at a1
    have hn : σ1 42 6 = nI (s_n T) := by rw [k42]; exact hR.1
    have k7 : ∀ v, am_up σ1 42 32 v 42 7 = σ1 42 7 := fun v => by rw [am_up_eq, pk_un (by decide)]
    have k6 : ∀ v w, am_up (am_up σ1 42 32 v) 42 33 w 42 6 = σ1 42 6 := fun v w => by rw [am_up_eq, pk_un (by decide), am_up_eq, pk_un (by decide)]
    simp (disch := first | assumption | omega | rfl | exact Nat.le_of_ble_eq_true rfl | decide) only [r135_0, r135_1, r135_3, r135_5, r135_8, r135_9, r135_12, r135_13, r135_14, r135_15, r135_16, r135_19, r135_20, r135_21, r135_22, r135_23, r135_26, r135_27, r135_28, r135_29, r135_30, r135_31, r135_32, r135_35, r135_36, r135_37, r135_38, r135_39, r135_42, r135_43, r135_44, r135_45, r135_46, r135_47, r135_48, r135_51, r135_52, r135_53, r135_54, r135_57, r135_60, r135_61, r135_62, r135_65, r135_68, r135_69, r135_70, r135_73, r135_76, r135_77, r135_80, am_gf_42_6, am_gf_42_7, am_gf_42_12, am_gf_42_13, am_gf_42_14, am_gf_42_34, am_pf_42_32, am_pf_42_33, am_ai_50, am_ai_51, am_ai_52, am_ai_69, am_nl_i, am_nl_r, am_nl_n, am_nl_l, Option.bind_some, Option.toList_some, Option.toList_none, List.cons_append, List.nil_append, if_true, if_false, Bool.false_eq_true, Int.reduceEq, Int.reduceAdd, ↓reduceIte]
    rw [a1, r135_60]
    simp (disch := first | assumption | omega | rfl | exact Nat.le_of_ble_eq_true rfl | decide) only [r135_0, r135_1, r135_3, r135_5, r135_8, r135_9, r135_12, r135_13, r135_14, r135_15, r135_16, r135_19, r135_20, r135_21, r135_22, r135_23, r135_26, r135_27, r135_28, r135_29, r135_30, r135_31, r135_32, r135_35, r135_36, r135_37, r135_38, r135_39, r135_42, r135_43, r135_44, r135_45, r135_46, r135_47, r135_48, r135_51, r135_52, r135_53, r135_54, r135_57, r135_61, r135_62, r135_65, r135_68, r135_69, r135_70, r135_73, r135_76, r135_77, r135_80, am_gf_42_6, am_gf_42_7, am_gf_42_12, am_gf_42_13, am_gf_42_14, am_gf_42_34, am_pf_42_32, am_pf_42_33, am_ai_50, am_ai_51, am_ai_52, am_ai_69, am_nl_i, am_nl_r, am_nl_n, am_nl_l, Option.bind_some, Option.toList_some, Option.toList_none, List.cons_append, List.nil_append, if_true, if_false, Bool.false_eq_true, Int.reduceEq, Int.reduceAdd, ↓reduceIte, k7, k6]
    rw [hn]
    rfl
  · obtain ⟨r1, r2, r3, r4, r5, r6, r7, r8⟩ := hR
    have ku : ∀ j, j ≠ 32 → j ≠ 33 → am_up (am_up σ1 42 32 (σ1 42 6)) 42 33 (σ1 42 7) 42 j = σ 42 j := fun j x y => by rw [am_up_eq, pk_un y, am_up_eq, pk_un x, k42]
    have ko : ∀ c, c ≠ 42 → c ≠ 69 → am_up (am_up σ1 42 32 (σ1 42 6)) 42 33 (σ1 42 7) c = σ c := fun c x y => by rw [am_up_ne x, am_up_ne x, a2 c y]
    refine ⟨by rw [ku 6 (by decide) (by decide)]; exact r1, fun i hi => ?_, fun j hj => by rw [ko 44 (by decide) (by decide)]; exact r3 j hj, by rw [ku 1 (by decide) (by decide), ko 43 (by decide) (by decide)]; exact r4, by rw [ku 4 (by decide) (by decide)]; exact r5, by rw [ku 21 (by decide) (by decide)]; exact r6, by rw [ku 7 (by decide) (by decide)]; exact r7, ?_⟩
    · rw [ko 46 (by decide) (by decide), ko 47 (by decide) (by decide), ko 48 (by decide) (by decide), ko 49 (by decide) (by decide), ko 50 (by decide) (by decide), ko 51 (by decide) (by decide), ko 52 (by decide) (by decide), ko 53 (by decide) (by decide)]
      exact r2 i hi
    · refine ⟨?_, ?_, fun j hj => ?_⟩
      · rw [am_up_eq, pk_un (by decide), am_up_eq, pk_us, k42]; exact r1
      · rw [am_up_eq, pk_us, k42]; exact r7
      · have hj : j < s_n T := hj
        rw [am_up_ne (by decide), am_up_ne (by decide)]
        obtain ⟨b1, b2, b3⟩ := a3 j (Nat.zero_le j) (by omega)
        obtain ⟨-, -, -, -, c5, c6, c7, -⟩ := r2 j hj
        exact ⟨by rw [b1]; exact c5, by rw [b2]; exact c6, by rw [b3]; exact c7⟩
/-! restore -/
theorem m_re_loop {d : Nat} {τ : Int64} : ∀ k i (σ : am_St), i + k = 12 → ∃ σ' : am_St, am_run d 136 13 [.ref 42, .int (nI i)] [] σ τ = am_run d 136 71 [.ref 42, .int (nI 12)] [] σ' τ ∧ (∀ c, c ≠ 50 → c ≠ 51 → c ≠ 52 → σ' c = σ c) ∧ (∀ j, i ≤ j → j < 12 → σ' 50 j = σ 69 (3 * j) ∧ σ' 51 j = σ 69 (3 * j + 1) ∧ σ' 52 j = σ 69 (3 * j + 2)) ∧ ∀ j, j < i → σ' 50 j = σ 50 j ∧ σ' 51 j = σ 51 j ∧ σ' 52 j = σ 52 j := by
  intro k
  induction k with
  | zero =>
    intro i σ hi
    have e : i = 12 := by omega
    subst e
    refine ⟨σ, ?_, fun _ _ _ _ => rfl, fun j h1 h2 => by omega, fun _ _ => ⟨rfl, rfl, rfl⟩⟩
    rw [r136_13]
    simp (disch := first | assumption | omega | rfl | exact Nat.le_of_ble_eq_true rfl | decide) only [r136_0, r136_1, r136_4, r136_5, r136_8, r136_10, r136_11, r136_12, r136_14, r136_16, r136_19, r136_20, r136_23, r136_24, r136_25, r136_28, r136_29, r136_30, r136_31, r136_32, r136_33, r136_34, r136_37, r136_38, r136_39, r136_42, r136_43, r136_44, r136_45, r136_46, r136_47, r136_48, r136_49, r136_50, r136_53, r136_54, r136_55, r136_58, r136_59, r136_60, r136_61, r136_62, r136_63, r136_64, r136_65, r136_68, r136_72, r136_73, r136_76, r136_79, r136_80, r136_81, r136_84, r136_87, r136_88, r136_91, am_gf_42_6, am_gf_42_12, am_gf_42_13, am_gf_42_14, am_gf_42_32, am_gf_42_33, am_gf_42_34, am_pf_42_6, am_pf_42_7, am_ai_50, am_ai_51, am_ai_52, am_ai_69, am_nl_i, am_nl_r, am_nl_n, am_nl_l, Option.bind_some, Option.toList_some, Option.toList_none, List.cons_append, List.nil_append, if_true, if_false, Bool.false_eq_true, Int.reduceEq, Int.reduceAdd, ↓reduceIte, show (12 : Int32) = nI 12 from rfl, i_rf]
  | succ k ih =>
    intro i σ hi
    have hc : ¬ 12 ≤ i := by omega
    have hi12 : i < 12 := by omega
    have h0 : 3 * i < 36 := by omega
    have h1 : 3 * i + 1 < 36 := by omega
    have h2 : 3 * i + 2 < 36 := by omega
    obtain ⟨σ', g1, g2, g3, g4⟩ := ih (i + 1) (am_up (am_up (am_up σ 50 i (σ 69 (3 * i))) 51 i (σ 69 (3 * i + 1))) 52 i (σ 69 (3 * i + 2))) (by omega)
    refine ⟨σ', ?_, fun c x y z => by rw [g2 c x y z, am_up_ne z, am_up_ne y, am_up_ne x], fun j hj1 hj2 => ?_, fun j hj => ?_⟩
    · have e2 : nI (3 * i) + 2 = nI (3 * i + 2) := nI_add (3 * i) 2
      have e3 : (3 : Int32) * nI i = nI (3 * i) := pk_mul 3 i
      rw [← g1, r136_13]
      simp (disch := first | assumption | omega | rfl | exact Nat.le_of_ble_eq_true rfl | decide) only [r136_0, r136_1, r136_4, r136_5, r136_8, r136_10, r136_11, r136_12, r136_14, r136_16, r136_19, r136_20, r136_23, r136_24, r136_25, r136_28, r136_29, r136_30, r136_31, r136_32, r136_33, r136_34, r136_37, r136_38, r136_39, r136_42, r136_43, r136_44, r136_45, r136_46, r136_47, r136_48, r136_49, r136_50, r136_53, r136_54, r136_55, r136_58, r136_59, r136_60, r136_61, r136_62, r136_63, r136_64, r136_65, r136_68, r136_72, r136_73, r136_76, r136_79, r136_80, r136_81, r136_84, r136_87, r136_88, r136_91, am_gf_42_6, am_gf_42_12, am_gf_42_13, am_gf_42_14, am_gf_42_32, am_gf_42_33, am_gf_42_34, am_pf_42_6, am_pf_42_7, am_ai_50, am_ai_51, am_ai_52, am_ai_69, am_nl_i, am_nl_r, am_nl_n, am_nl_l, Option.bind_some, Option.toList_some, Option.toList_none, List.cons_append, List.nil_append, if_true, if_false, Bool.false_eq_true, Int.reduceEq, Int.reduceAdd, ↓reduceIte, show (12 : Int32) = nI 12 from rfl, ni_le, hc, e3, nI_1, e2, am_up_ne]
    · by_cases h : j = i
      · subst h
        obtain ⟨b1, b2, b3⟩ := g4 j (by omega)
        rw [b1, b2, b3]
        simp (disch := decide) only [am_up_ne, am_up_eq, pk_us, and_self]
      · have := g3 j (by omega) hj2
        simp (disch := decide) only [am_up_ne] at this
        exact this
    · obtain ⟨b1, b2, b3⟩ := g4 j (by omega)
      have hji : j ≠ i := by omega
      rw [b1, b2, b3]
      simp (disch := first | decide | assumption) only [am_up_ne, am_up_eq, pk_un, and_self]
theorem m_restore {d : Nat} {σ : am_St} {τ : Int64} {T : tS} (hR : RM σ T) (hW : WF T) : ∃ σ' : am_St, am_call d 136 [.ref 42] σ τ = some (some (.int (sp_restore T).1), σ', τ) ∧ RM σ' (sp_restore T).2 ∧ ∀ c, c < 42 → σ' c = σ c := by
  have h12 := hW.1
  have hR0 := hR
  obtain ⟨r1, r2, r3, r4, r5, r6, r7, r8⟩ := hR
  unfold sp_restore
  cases hi : s_im T with
  | none =>
    rw [hi] at r8
    have h0 : σ 42 32 = -1 := r8
    refine ⟨σ, ?_, hR0, fun _ _ => rfl⟩
    show am_run d 136 0 [.ref 42, .null] [] σ τ = _
    simp (disch := first | assumption | omega | rfl | exact Nat.le_of_ble_eq_true rfl | decide) only [r136_0, r136_1, r136_4, r136_5, r136_8, r136_10, r136_11, r136_12, r136_13, r136_14, r136_16, r136_19, r136_20, r136_23, r136_24, r136_25, r136_28, r136_29, r136_30, r136_31, r136_32, r136_33, r136_34, r136_37, r136_38, r136_39, r136_42, r136_43, r136_44, r136_45, r136_46, r136_47, r136_48, r136_49, r136_50, r136_53, r136_54, r136_55, r136_58, r136_59, r136_60, r136_61, r136_62, r136_63, r136_64, r136_65, r136_68, r136_71, r136_72, r136_73, r136_76, r136_79, r136_80, r136_81, r136_84, r136_87, r136_88, r136_91, am_gf_42_6, am_gf_42_12, am_gf_42_13, am_gf_42_14, am_gf_42_32, am_gf_42_33, am_gf_42_34, am_pf_42_6, am_pf_42_7, am_ai_50, am_ai_51, am_ai_52, am_ai_69, am_nl_i, am_nl_r, am_nl_n, am_nl_l, Option.bind_some, Option.toList_some, Option.toList_none, List.cons_append, List.nil_append, if_true, if_false, Bool.false_eq_true, Int.reduceEq, Int.reduceAdd, ↓reduceIte, h0]
  | some im =>
    rw [hi] at r8
    obtain ⟨h0, h1, h2⟩ : σ 42 32 = nI im.1 ∧ σ 42 33 = nI (cnt (s_gp T) im.1) ∧ ∀ j, j < im.1 → σ 69 (3 * j) = im.2.1 j ∧ σ 69 (3 * j + 1) = im.2.2.1 j ∧ σ 69 (3 * j + 2) = im.2.2.2 j := r8
    obtain ⟨w1, w2⟩ := hW.2.2.2.2.2.2 im hi
    have hne : ¬ nI im.1 = -1 := am_nm1 (by omega)
    obtain ⟨σ1, a1, a2, a3, -⟩ := m_re_loop (d := d) (τ := τ) 12 0 σ rfl
    have k42 : σ1 42 = σ 42 := a2 42 (by decide) (by decide) (by decide)
    have q32 : σ1 42 32 = nI im.1 := by rw [k42]; exact h0
    refine ⟨am_up (am_up σ1 42 6 (nI im.1)) 42 7 (σ1 42 33), ?_, ?_, fun c hc => by rw [am_up_ne (by omega), am_up_ne (by omega), a2 c (by omega) (by omega) (by omega)]⟩
    · show am_run d 136 0 [.ref 42, .null] [] σ τ = _
      have e0 : nI 0 = 0 := rfl
      rw [e0] at a1
      have k33 : ∀ v, am_up σ1 42 6 v 42 33 = σ1 42 33 := fun v => by rw [am_up_eq, pk_un (by decide)]
      have k6 : ∀ v w, am_up (am_up σ1 42 6 v) 42 7 w 42 6 = v := fun v w => by rw [am_up_eq, pk_un (by decide), am_up_eq, pk_us]
      simp (disch := first | assumption | omega | rfl | exact Nat.le_of_ble_eq_true rfl | decide) only [r136_0, r136_1, r136_4, r136_5, r136_8, r136_10, r136_11, r136_12, r136_14, r136_16, r136_19, r136_20, r136_23, r136_24, r136_25, r136_28, r136_29, r136_30, r136_31, r136_32, r136_33, r136_34, r136_37, r136_38, r136_39, r136_42, r136_43, r136_44, r136_45, r136_46, r136_47, r136_48, r136_49, r136_50, r136_53, r136_54, r136_55, r136_58, r136_59, r136_60, r136_61, r136_62, r136_63, r136_64, r136_65, r136_68, r136_71, r136_72, r136_73, r136_76, r136_79, r136_80, r136_81, r136_84, r136_87, r136_88, r136_91, am_gf_42_6, am_gf_42_12, am_gf_42_13, am_gf_42_14, am_gf_42_32, am_gf_42_33, am_gf_42_34, am_pf_42_6, am_pf_42_7, am_ai_50, am_ai_51, am_ai_52, am_ai_69, am_nl_i, am_nl_r, am_nl_n, am_nl_l, Option.bind_some, Option.toList_some, Option.toList_none, List.cons_append, List.nil_append, if_true, if_false, Bool.false_eq_true, Int.reduceEq, Int.reduceAdd, ↓reduceIte, h0, hne]
      rw [a1, r136_71]
      simp (disch := first | assumption | omega | rfl | exact Nat.le_of_ble_eq_true rfl | decide) only [r136_0, r136_1, r136_4, r136_5, r136_8, r136_10, r136_11, r136_12, r136_14, r136_16, r136_19, r136_20, r136_23, r136_24, r136_25, r136_28, r136_29, r136_30, r136_31, r136_32, r136_33, r136_34, r136_37, r136_38, r136_39, r136_42, r136_43, r136_44, r136_45, r136_46, r136_47, r136_48, r136_49, r136_50, r136_53, r136_54, r136_55, r136_58, r136_59, r136_60, r136_61, r136_62, r136_63, r136_64, r136_65, r136_68, r136_72, r136_73, r136_76, r136_79, r136_80, r136_81, r136_84, r136_87, r136_88, r136_91, am_gf_42_6, am_gf_42_12, am_gf_42_13, am_gf_42_14, am_gf_42_32, am_gf_42_33, am_gf_42_34, am_pf_42_6, am_pf_42_7, am_ai_50, am_ai_51, am_ai_52, am_ai_69, am_nl_i, am_nl_r, am_nl_n, am_nl_l, Option.bind_some, Option.toList_some, Option.toList_none, List.cons_append, List.nil_append, if_true, if_false, Bool.false_eq_true, Int.reduceEq, Int.reduceAdd, ↓reduceIte, k33, k6, q32]
    · have ku : ∀ j, j ≠ 6 → j ≠ 7 → am_up (am_up σ1 42 6 (nI im.1)) 42 7 (σ1 42 33) 42 j = σ 42 j := fun j x y => by rw [am_up_eq, pk_un y, am_up_eq, pk_un x, k42]
      have ko : ∀ c, c ≠ 42 → c ≠ 50 → c ≠ 51 → c ≠ 52 → am_up (am_up σ1 42 6 (nI im.1)) 42 7 (σ1 42 33) c = σ c := fun c x y z w => by rw [am_up_ne x, am_up_ne x, a2 c y z w]
      refine ⟨by rw [am_up_eq, pk_un (by decide), am_up_eq, pk_us]; rfl, fun i hi2 => ?_, fun j hj => by rw [ko 44 (by decide) (by decide) (by decide) (by decide)]; exact r3 j hj, by rw [ku 1 (by decide) (by decide), ko 43 (by decide) (by decide) (by decide) (by decide)]; exact r4, by rw [ku 4 (by decide) (by decide)]; exact r5, by rw [ku 21 (by decide) (by decide)]; exact r6, by rw [am_up_eq, pk_us, k42]; exact h1, ?_⟩
      · have hi3 : i < im.1 := hi2
        obtain ⟨b1, b2, b3⟩ := a3 i (Nat.zero_le i) (by omega)
        obtain ⟨c1, c2, c3, c4, -, -, -, c8⟩ := r2 i (by omega)
        obtain ⟨d1, d2, d3⟩ := h2 i hi3
        rw [ko 46 (by decide) (by decide) (by decide) (by decide), ko 47 (by decide) (by decide) (by decide) (by decide), ko 48 (by decide) (by decide) (by decide) (by decide), ko 49 (by decide) (by decide) (by decide) (by decide), ko 53 (by decide) (by decide) (by decide) (by decide)]
        simp (disch := decide) only [am_up_ne]
        exact ⟨c1, c2, c3, c4, by rw [b1]; exact d1, by rw [b2]; exact d2, by rw [b3]; exact d3, c8⟩
      · show match s_im T with
          | none => _
          | some im => _
        rw [hi, ku 32 (by decide) (by decide), ku 33 (by decide) (by decide), ko 69 (by decide) (by decide) (by decide) (by decide)]
        exact ⟨h0, h1, h2⟩
/-! count -/
theorem m_wm_loop {d n : Nat} {σ : am_St} {τ : Int64} (hn : σ 42 6 = nI n) (h12 : n ≤ 12) : ∀ k i, i + k = n → am_run d 137 4 [.ref 42, .int (nI (cnt (fun j => !decide (σ 51 j = -1)) i)), .int (nI i)] [] σ τ = some (some (.int (nI (cnt (fun j => !decide (σ 51 j = -1)) n))), σ, τ) := by
  intro k
  induction k with
  | zero =>
    intro i hi
    have e : i = n := by omega
    subst e
    rw [r137_4]
    simp (disch := first | assumption | omega | rfl | exact Nat.le_of_ble_eq_true rfl | decide) only [r137_0, r137_1, r137_2, r137_3, r137_5, r137_6, r137_9, r137_12, r137_13, r137_14, r137_17, r137_18, r137_19, r137_20, r137_23, r137_24, r137_27, r137_28, r137_29, r137_30, r137_33, r137_36, r137_37, am_gf_42_6, am_gf_42_13, am_ai_51, am_nl_i, am_nl_r, am_nl_n, am_nl_l, Option.bind_some, Option.toList_some, Option.toList_none, List.cons_append, List.nil_append, if_true, if_false, Bool.false_eq_true, Int.reduceEq, Int.reduceAdd, ↓reduceIte, hn, i_rf]
  | succ k ih =>
    intro i hi
    have hc : ¬ n ≤ i := by omega
    have hi12 : i < 12 := by omega
    have ea : ∀ x : Int32, x + 0 = x := fun x => by simp
    rw [← ih (i + 1) (by omega), r137_4, cnt_s]
    by_cases h : σ 51 i = -1
    · simp (disch := first | assumption | omega | rfl | exact Nat.le_of_ble_eq_true rfl | decide) only [r137_0, r137_1, r137_2, r137_3, r137_5, r137_6, r137_9, r137_12, r137_13, r137_14, r137_17, r137_18, r137_19, r137_20, r137_23, r137_24, r137_27, r137_28, r137_29, r137_30, r137_33, r137_36, r137_37, am_gf_42_6, am_gf_42_13, am_ai_51, am_nl_i, am_nl_r, am_nl_n, am_nl_l, Option.bind_some, Option.toList_some, Option.toList_none, List.cons_append, List.nil_append, if_true, if_false, Bool.false_eq_true, Int.reduceEq, Int.reduceAdd, ↓reduceIte, hn, ni_le, hc, h, nI_1, ea, decide_true, Bool.not_true, Nat.add_zero]
    · simp (disch := first | assumption | omega | rfl | exact Nat.le_of_ble_eq_true rfl | decide) only [r137_0, r137_1, r137_2, r137_3, r137_5, r137_6, r137_9, r137_12, r137_13, r137_14, r137_17, r137_18, r137_19, r137_20, r137_23, r137_24, r137_27, r137_28, r137_29, r137_30, r137_33, r137_36, r137_37, am_gf_42_6, am_gf_42_13, am_ai_51, am_nl_i, am_nl_r, am_nl_n, am_nl_l, Option.bind_some, Option.toList_some, Option.toList_none, List.cons_append, List.nil_append, if_true, if_false, Bool.false_eq_true, Int.reduceEq, Int.reduceAdd, ↓reduceIte, hn, ni_le, hc, h, nI_1, decide_false, Bool.not_false]
theorem m_writtenMany {d n : Nat} {σ : am_St} {τ : Int64} (hn : σ 42 6 = nI n) (h12 : n ≤ 12) : am_call d 137 [.ref 42] σ τ = some (some (.int (nI (cnt (fun j => !decide (σ 51 j = -1)) n))), σ, τ) := by
  show am_run d 137 0 [.ref 42, .null, .null] [] σ τ = _
  simp (disch := first | assumption | omega | rfl | exact Nat.le_of_ble_eq_true rfl | decide) only [r137_0, r137_1, r137_2, r137_3, r137_5, r137_6, r137_9, r137_12, r137_13, r137_14, r137_17, r137_18, r137_19, r137_20, r137_23, r137_24, r137_27, r137_28, r137_29, r137_30, r137_33, r137_36, r137_37, am_gf_42_6, am_gf_42_13, am_ai_51, am_nl_i, am_nl_r, am_nl_n, am_nl_l, Option.bind_some, Option.toList_some, Option.toList_none, List.cons_append, List.nil_append, if_true, if_false, Bool.false_eq_true, Int.reduceEq, Int.reduceAdd, ↓reduceIte]
  exact m_wm_loop hn h12 n 0 (by omega)
theorem m_countOf {d : Nat} {σ : am_St} {τ : Int64} {T : tS} {x : Int32} (hR : RM σ T) (hW : WF T) : am_call (d + 1) 138 [.ref 42, .int x] σ τ = some (some (.int (cntS T x)), σ, τ) := by
  show am_run (d + 1) 138 0 [.ref 42, .int x] [] σ τ = _
  have hn := hR.1
  have h12 := hW.1
  have hg := hR.2.2.2.2.2.2.1
  have hl : am_call d 109 [.ref 42] σ τ = some (some (.int (nI (cnt (fun i => !decide (s_lv T i = 0)) (s_n T)))), σ, τ) := by
    rw [m_aliveMany hn h12 (fun i hi => by rw [(hR.2.1 i hi).2.2.2.2.2.2.1]; exact (hW.2.1 i hi).2.2.2.2), cnt_congr (Q := fun i => !decide (s_lv T i = 0)) (fun i hi => by rw [(hR.2.1 i hi).2.2.2.2.2.2.1])]
  have he : am_call d 137 [.ref 42] σ τ = some (some (.int (nI (cnt (fun i => !decide (s_wr T i = -1)) (s_n T)))), σ, τ) := by
    rw [m_writtenMany hn h12, cnt_congr (Q := fun i => !decide (s_wr T i = -1)) (fun i hi => by rw [(hR.2.1 i hi).2.2.2.2.2.1])]
  have hp := hR.2.2.2.1.1
  have hlr := hR.2.2.2.2.1
  have hmd := hR.2.2.2.2.2.1
  unfold cntS
  by_cases h0 : x = 0
  · subst h0
    have t0 : (0 : Int32).toInt = 0 := by decide
    simp (disch := first | assumption | omega | rfl | exact Nat.le_of_ble_eq_true rfl | decide) only [r138_0, r138_1, r138_44, r138_45, r138_48, r138_49, r138_50, r138_53, r138_54, r138_55, r138_58, r138_59, r138_60, r138_63, r138_64, r138_65, r138_68, r138_69, r138_70, r138_73, r138_74, r138_75, r138_78, r138_79, r138_81, am_gf_42_1, am_gf_42_4, am_gf_42_6, am_gf_42_7, am_gf_42_21, am_nl_i, am_nl_r, am_nl_n, am_nl_l, Option.bind_some, Option.toList_some, Option.toList_none, List.cons_append, List.nil_append, if_true, if_false, Bool.false_eq_true, Int.reduceEq, Int.reduceAdd, ↓reduceIte, am_sw, t0, hn]
  · by_cases h1 : x = 1
    · subst h1
      have t1 : (1 : Int32).toInt = 1 := by decide
      simp (disch := first | assumption | omega | rfl | exact Nat.le_of_ble_eq_true rfl | decide) only [r138_0, r138_1, r138_44, r138_45, r138_48, r138_49, r138_50, r138_53, r138_54, r138_55, r138_58, r138_59, r138_60, r138_63, r138_64, r138_65, r138_68, r138_69, r138_70, r138_73, r138_74, r138_75, r138_78, r138_79, r138_81, am_gf_42_1, am_gf_42_4, am_gf_42_6, am_gf_42_7, am_gf_42_21, am_nl_i, am_nl_r, am_nl_n, am_nl_l, Option.bind_some, Option.toList_some, Option.toList_none, List.cons_append, List.nil_append, if_true, if_false, Bool.false_eq_true, Int.reduceEq, Int.reduceAdd, ↓reduceIte, am_sw, t1, h0, hg]
    · by_cases h2 : x = 2
      · subst h2
        have t2 : (2 : Int32).toInt = 2 := by decide
        simp (disch := first | assumption | omega | rfl | exact Nat.le_of_ble_eq_true rfl | decide) only [r138_0, r138_1, r138_44, r138_45, r138_48, r138_49, r138_50, r138_53, r138_54, r138_55, r138_58, r138_59, r138_60, r138_63, r138_64, r138_65, r138_68, r138_69, r138_70, r138_73, r138_74, r138_75, r138_78, r138_79, r138_81, am_gf_42_1, am_gf_42_4, am_gf_42_6, am_gf_42_7, am_gf_42_21, am_nl_i, am_nl_r, am_nl_n, am_nl_l, Option.bind_some, Option.toList_some, Option.toList_none, List.cons_append, List.nil_append, if_true, if_false, Bool.false_eq_true, Int.reduceEq, Int.reduceAdd, ↓reduceIte, am_sw, t2, h0, h1, hl]
      · by_cases h3 : x = 3
        · subst h3
          have t3 : (3 : Int32).toInt = 3 := by decide
          simp (disch := first | assumption | omega | rfl | exact Nat.le_of_ble_eq_true rfl | decide) only [r138_0, r138_1, r138_44, r138_45, r138_48, r138_49, r138_50, r138_53, r138_54, r138_55, r138_58, r138_59, r138_60, r138_63, r138_64, r138_65, r138_68, r138_69, r138_70, r138_73, r138_74, r138_75, r138_78, r138_79, r138_81, am_gf_42_1, am_gf_42_4, am_gf_42_6, am_gf_42_7, am_gf_42_21, am_nl_i, am_nl_r, am_nl_n, am_nl_l, Option.bind_some, Option.toList_some, Option.toList_none, List.cons_append, List.nil_append, if_true, if_false, Bool.false_eq_true, Int.reduceEq, Int.reduceAdd, ↓reduceIte, am_sw, t3, h0, h1, h2, he]
        · by_cases h4 : x = 4
          · subst h4
            have t4 : (4 : Int32).toInt = 4 := by decide
            simp (disch := first | assumption | omega | rfl | exact Nat.le_of_ble_eq_true rfl | decide) only [r138_0, r138_1, r138_44, r138_45, r138_48, r138_49, r138_50, r138_53, r138_54, r138_55, r138_58, r138_59, r138_60, r138_63, r138_64, r138_65, r138_68, r138_69, r138_70, r138_73, r138_74, r138_75, r138_78, r138_79, r138_81, am_gf_42_1, am_gf_42_4, am_gf_42_6, am_gf_42_7, am_gf_42_21, am_nl_i, am_nl_r, am_nl_n, am_nl_l, Option.bind_some, Option.toList_some, Option.toList_none, List.cons_append, List.nil_append, if_true, if_false, Bool.false_eq_true, Int.reduceEq, Int.reduceAdd, ↓reduceIte, am_sw, t4, h0, h1, h2, h3, hp]
          · by_cases h5 : x = 5
            · subst h5
              have t5 : (5 : Int32).toInt = 5 := by decide
              simp (disch := first | assumption | omega | rfl | exact Nat.le_of_ble_eq_true rfl | decide) only [r138_0, r138_1, r138_44, r138_45, r138_48, r138_49, r138_50, r138_53, r138_54, r138_55, r138_58, r138_59, r138_60, r138_63, r138_64, r138_65, r138_68, r138_69, r138_70, r138_73, r138_74, r138_75, r138_78, r138_79, r138_81, am_gf_42_1, am_gf_42_4, am_gf_42_6, am_gf_42_7, am_gf_42_21, am_nl_i, am_nl_r, am_nl_n, am_nl_l, Option.bind_some, Option.toList_some, Option.toList_none, List.cons_append, List.nil_append, if_true, if_false, Bool.false_eq_true, Int.reduceEq, Int.reduceAdd, ↓reduceIte, am_sw, t5, h0, h1, h2, h3, h4, hlr]
            · by_cases h6 : x = 6
              · subst h6
                have t6 : (6 : Int32).toInt = 6 := by decide
                simp (disch := first | assumption | omega | rfl | exact Nat.le_of_ble_eq_true rfl | decide) only [r138_0, r138_1, r138_44, r138_45, r138_48, r138_49, r138_50, r138_53, r138_54, r138_55, r138_58, r138_59, r138_60, r138_63, r138_64, r138_65, r138_68, r138_69, r138_70, r138_73, r138_74, r138_75, r138_78, r138_79, r138_81, am_gf_42_1, am_gf_42_4, am_gf_42_6, am_gf_42_7, am_gf_42_21, am_nl_i, am_nl_r, am_nl_n, am_nl_l, Option.bind_some, Option.toList_some, Option.toList_none, List.cons_append, List.nil_append, if_true, if_false, Bool.false_eq_true, Int.reduceEq, Int.reduceAdd, ↓reduceIte, am_sw, t6, h0, h1, h2, h3, h4, h5, hmd]
              · have t0 : ¬ x.toInt = 0 := lv_neT h0 rfl
                have t1 : ¬ x.toInt = 1 := lv_neT h1 rfl
                have t2 : ¬ x.toInt = 2 := lv_neT h2 rfl
                have t3 : ¬ x.toInt = 3 := lv_neT h3 rfl
                have t4 : ¬ x.toInt = 4 := lv_neT h4 rfl
                have t5 : ¬ x.toInt = 5 := lv_neT h5 rfl
                have t6 : ¬ x.toInt = 6 := lv_neT h6 rfl
                simp (disch := first | assumption | omega | rfl | exact Nat.le_of_ble_eq_true rfl | decide) only [r138_0, r138_1, r138_44, r138_45, r138_48, r138_49, r138_50, r138_53, r138_54, r138_55, r138_58, r138_59, r138_60, r138_63, r138_64, r138_65, r138_68, r138_69, r138_70, r138_73, r138_74, r138_75, r138_78, r138_79, r138_81, am_gf_42_1, am_gf_42_4, am_gf_42_6, am_gf_42_7, am_gf_42_21, am_nl_i, am_nl_r, am_nl_n, am_nl_l, Option.bind_some, Option.toList_some, Option.toList_none, List.cons_append, List.nil_append, if_true, if_false, Bool.false_eq_true, Int.reduceEq, Int.reduceAdd, ↓reduceIte, am_sw, t0, t1, t2, t3, t4, t5, t6, h0, h1, h2, h3, h4, h5, h6]
theorem m_count {d : Nat} {σ : am_St} {τ : Int64} {T : tS} {x : Int32} (hR : RM σ T) (hW : WF T) : am_call (d + 2) 139 [.ref 42, .int x] σ τ = some (some (.int (cntS T x)), σ, τ) := by
  show am_run (d + 2) 139 0 [.ref 42, .int x] [] σ τ = _
  simp (disch := first | assumption | omega | rfl | exact Nat.le_of_ble_eq_true rfl | decide) only [r139_0, r139_1, r139_2, r139_5, am_nl_i, am_nl_r, am_nl_n, am_nl_l, Option.bind_some, Option.toList_some, Option.toList_none, List.cons_append, List.nil_append, if_true, if_false, Bool.false_eq_true, Int.reduceEq, Int.reduceAdd, ↓reduceIte, m_countOf (d := d) (τ := τ) (x := x) hR hW]
