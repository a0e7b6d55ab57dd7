/-! the reference: mended -/
theorem m_aloneMany_loop {d n : Nat} {τ : Int64} {al : Nat → Bool} (h12 : n ≤ 12) : ∀ k i (σ : am_St), i + k = n → σ 42 6 = nI n → (∀ j, j < n → alK (σ 46) j = al j) → (∀ j, j < i → al j = true → σ 59 (cnt al j) = nI j) → ∃ σ' : am_St, am_run (d + 1) 113 4 [.ref 42, .int (nI (cnt al i)), .int (nI i)] [] σ τ = some (some (.int (nI (cnt al n))), σ', τ) ∧ (∀ c, c ≠ 59 → σ' c = σ c) ∧ ∀ j, j < n → al j = true → σ' 59 (cnt al j) = nI j := by
  intro k
  induction k with
  | zero =>
    intro i σ hi hn ha h
    have e : i = n := by omega
    subst e
    refine ⟨σ, ?_, fun _ _ => rfl, h⟩
    rw [r113_4]
    simp (disch := first | assumption | omega | rfl | exact Nat.le_of_ble_eq_true rfl | decide) only [r113_0, r113_1, r113_2, r113_3, r113_5, r113_6, r113_9, r113_12, r113_13, r113_16, r113_17, r113_18, r113_21, r113_24, r113_25, r113_28, r113_29, r113_30, r113_31, r113_34, r113_37, r113_40, r113_41, am_gf_42_6, am_gf_42_8, am_gf_42_22, am_ai_46, am_ai_59, am_nl_i, am_nl_r, am_nl_n, am_nl_l, Option.bind_some, Option.toList_some, Option.toList_none, List.cons_append, List.nil_append, if_true, if_false, Bool.false_eq_true, Int.reduceEq, Int.reduceAdd, ↓reduceIte, hn, i_rf]
  | succ k ih =>
    intro i σ hi hn ha h
    have hc : ¬ n ≤ i := by omega
    have hi12 : i < 12 := by omega
    have hci : cnt al i < 12 := Nat.lt_of_le_of_lt (cnt_le _ _) hi12
    have hai := ha i (by omega)
    cases hal : al i with
    | true =>
      have hk1 : σ 46 i = 1 ∨ σ 46 i = 3 := by rw [← alK_iff, hai, hal]
      have es : cnt al (i + 1) = cnt al i + 1 := by rw [cnt_s, hal]; rfl
      obtain ⟨σ', g1, g2, g3⟩ := ih (i + 1) (am_up σ 59 (cnt al i) (nI i)) (by omega) (by rw [am_up_ne (by decide)]; exact hn) (fun j hj => by rw [am_up_ne (by decide)]; exact ha j hj) (fun j hj haj => by
        rw [am_up_eq]
        by_cases e : j = i
        · subst e; rw [pk_us]
        · rw [pk_un (by have := cnt_lt (show j < i by omega) haj; omega)]
          exact h j (by omega) haj)
      refine ⟨σ', ?_, fun c x => by rw [g2 c x, am_up_ne x], g3⟩
      rw [← g1, r113_4]
      simp (disch := first | assumption | omega | rfl | exact Nat.le_of_ble_eq_true rfl | decide) only [r113_0, r113_1, r113_2, r113_3, r113_5, r113_6, r113_9, r113_12, r113_13, r113_16, r113_17, r113_18, r113_21, r113_24, r113_25, r113_28, r113_29, r113_30, r113_31, r113_34, r113_37, r113_40, r113_41, am_gf_42_6, am_gf_42_8, am_gf_42_22, am_ai_46, am_ai_59, am_nl_i, am_nl_r, am_nl_n, am_nl_l, Option.bind_some, Option.toList_some, Option.toList_none, List.cons_append, List.nil_append, if_true, if_false, Bool.false_eq_true, Int.reduceEq, Int.reduceAdd, ↓reduceIte, hn, ni_le, hc, m_isAlone, hk1, e10, nI_1, es]
    | false =>
      have hk1 : ¬ (σ 46 i = 1 ∨ σ 46 i = 3) := by rw [← alK_iff, hai, hal]; decide
      have es : cnt al (i + 1) = cnt al i := by rw [cnt_s, hal]; rfl
      obtain ⟨σ', g1, g2, g3⟩ := ih (i + 1) σ (by omega) hn ha (fun j hj haj => by
        by_cases e : j = i
        · subst e; rw [hal] at haj; cases haj
        · exact h j (by omega) haj)
      refine ⟨σ', ?_, g2, g3⟩
      rw [← g1, r113_4]
      simp (disch := first | assumption | omega | rfl | exact Nat.le_of_ble_eq_true rfl | decide) only [r113_0, r113_1, r113_2, r113_3, r113_5, r113_6, r113_9, r113_12, r113_13, r113_16, r113_17, r113_18, r113_21, r113_24, r113_25, r113_28, r113_29, r113_30, r113_31, r113_34, r113_37, r113_40, r113_41, am_gf_42_6, am_gf_42_8, am_gf_42_22, am_ai_46, am_ai_59, am_nl_i, am_nl_r, am_nl_n, am_nl_l, Option.bind_some, Option.toList_some, Option.toList_none, List.cons_append, List.nil_append, if_true, if_false, Bool.false_eq_true, Int.reduceEq, Int.reduceAdd, ↓reduceIte, hn, ni_le, hc, m_isAlone, hk1, nI_1, es]
theorem m_aloneMany {d : Nat} {σ : am_St} {τ : Int64} {T : tS} (hR : RM σ T) (hW : WF T) : ∃ σ' : am_St, am_call (d + 1) 113 [.ref 42] σ τ = some (some (.int (nI (s_q T))), σ', τ) ∧ (∀ c, c ≠ 59 → σ' c = σ c) ∧ ∀ j, j < s_n T → s_al T j = true → σ' 59 (cnt (s_al T) j) = nI j := by
  obtain ⟨σ', g1, g2, g3⟩ := m_aloneMany_loop (d := d) (τ := τ) (al := s_al T) hW.1 (s_n T) 0 σ (by omega) hR.1 (fun j hj => by unfold alK; rw [(hR.2.1 j hj).1]; rfl) (fun j hj => absurd hj (Nat.not_lt_zero j))
  refine ⟨σ', ?_, g2, g3⟩
  show am_run (d + 1) 113 0 [.ref 42, .null, .null] [] σ τ = _
  simp (disch := first | assumption | omega | rfl | exact Nat.le_of_ble_eq_true rfl | decide) only [r113_0, r113_1, r113_2, r113_3, r113_5, r113_6, r113_9, r113_12, r113_13, r113_16, r113_17, r113_18, r113_21, r113_24, r113_25, r113_28, r113_29, r113_30, r113_31, r113_34, r113_37, r113_40, r113_41, am_gf_42_6, am_gf_42_8, am_gf_42_22, am_ai_46, am_ai_59, am_nl_i, am_nl_r, am_nl_n, am_nl_l, Option.bind_some, Option.toList_some, Option.toList_none, List.cons_append, List.nil_append, if_true, if_false, Bool.false_eq_true, Int.reduceEq, Int.reduceAdd, ↓reduceIte]
  exact g1
theorem m_six {d q : Nat} {σ : am_St} {τ : Int64} {v1 v5 v6 v7 : Value} (hq : q ≤ 4) : ∀ k i, i + k = q → am_run d 114 56 [.ref 42, v1, .int (nI q), .int (nI (six i)), .int (nI i), v5, v6, v7] [] σ τ = am_run d 114 73 [.ref 42, v1, .int (nI q), .int (nI (six q)), .int (nI q), v5, v6, v7] [] σ τ := by
  intro k
  induction k with
  | zero =>
    intro i hi
    have e : i = q := by omega
    subst e
    rw [r114_56]
    simp (disch := first | assumption | omega | rfl | exact Nat.le_of_ble_eq_true rfl | decide) only [r114_0, r114_1, r114_2, r114_3, r114_6, r114_9, r114_12, r114_14, r114_15, r114_16, r114_19, r114_20, r114_21, r114_22, r114_25, r114_26, r114_29, r114_31, r114_34, r114_36, r114_37, r114_38, r114_38i, r114_39, r114_42, r114_43, r114_44, r114_47, r114_48, r114_51, r114_52, r114_53, r114_54, r114_58, r114_59, r114_62, r114_63, r114_65, r114_66, r114_67, r114_70, r114_76, r114_78, r114_79, r114_83, r114_84, r114_87, r114_89, r114_91, r114_92, r114_93, r114_94, r114_98, r114_101, r114_102, r114_105, r114_106, r114_109, r114_111, r114_112, r114_114, r114_116, r114_117, r114_118, r114_120, r114_122, r114_123, r114_125, r114_128, r114_131, r114_132, r114_135, r114_136, r114_139, r114_141, r114_144, r114_145, r114_148, r114_150, r114_151, r114_155, r114_156, r114_159, r114_160, r114_163, r114_165, r114_166, r114_169, r114_170, r114_173, r114_175, r114_176, r114_177, r114_178, r114_181, r114_184, r114_187, r114_190, r114_191, r114_194, r114_196, r114_199, r114_200, r114_201, r114_204, r114_205, r114_208, r114_209, r114_210, r114_211, r114_212, r114_215, r114_216, am_gf_42_18, am_gf_42_21, am_gf_42_22, am_gf_42_23, am_pf_42_21, am_ai_56, am_ai_59, am_ai_60, am_nl_i, am_nl_r, am_nl_n, am_nl_l, Option.bind_some, Option.toList_some, Option.toList_none, List.cons_append, List.nil_append, if_true, if_false, Bool.false_eq_true, Int.reduceEq, Int.reduceAdd, ↓reduceIte, i_rf]
  | succ k ih =>
    intro i hi
    have hc : ¬ q ≤ i := by omega
    have hs := six_le (show i ≤ 4 by omega)
    have e6 : nI (six i) * 6 = nI (six (i + 1)) := pk_mul (six i) 6
    rw [← ih (i + 1) (by omega), r114_56]
    simp (disch := first | assumption | omega | rfl | exact Nat.le_of_ble_eq_true rfl | decide) only [r114_0, r114_1, r114_2, r114_3, r114_6, r114_9, r114_12, r114_14, r114_15, r114_16, r114_19, r114_20, r114_21, r114_22, r114_25, r114_26, r114_29, r114_31, r114_34, r114_36, r114_37, r114_38, r114_38i, r114_39, r114_42, r114_43, r114_44, r114_47, r114_48, r114_51, r114_52, r114_53, r114_54, r114_58, r114_59, r114_62, r114_63, r114_65, r114_66, r114_67, r114_70, r114_76, r114_78, r114_79, r114_83, r114_84, r114_87, r114_89, r114_91, r114_92, r114_93, r114_94, r114_98, r114_101, r114_102, r114_105, r114_106, r114_109, r114_111, r114_112, r114_114, r114_116, r114_117, r114_118, r114_120, r114_122, r114_123, r114_125, r114_128, r114_131, r114_132, r114_135, r114_136, r114_139, r114_141, r114_144, r114_145, r114_148, r114_150, r114_151, r114_155, r114_156, r114_159, r114_160, r114_163, r114_165, r114_166, r114_169, r114_170, r114_173, r114_175, r114_176, r114_177, r114_178, r114_181, r114_184, r114_187, r114_190, r114_191, r114_194, r114_196, r114_199, r114_200, r114_201, r114_204, r114_205, r114_208, r114_209, r114_210, r114_211, r114_212, r114_215, r114_216, am_gf_42_18, am_gf_42_21, am_gf_42_22, am_gf_42_23, am_pf_42_21, am_ai_56, am_ai_59, am_ai_60, am_nl_i, am_nl_r, am_nl_n, am_nl_l, Option.bind_some, Option.toList_some, Option.toList_none, List.cons_append, List.nil_append, if_true, if_false, Bool.false_eq_true, Int.reduceEq, Int.reduceAdd, ↓reduceIte, ni_le, hc, e6, nI_1]
theorem m_digits {d n q c0 : Nat} {τ : Int64} {al : Nat → Bool} {v1 v3 v4 : Value} (h12 : n ≤ 12) (hq : q = cnt al n) (h4 : q ≤ 4) (hc : c0 < 2147483648) : ∀ k (σ : am_St), k ≤ q → (∀ j, j < n → al j = true → σ 59 (cnt al j) = nI j) → ∃ σ' : am_St, am_run d 114 96 [.ref 42, v1, .int (nI q), v3, v4, .int (nI c0), .int (nI (c0 / six (q - k))), .int (nI k - 1)] [] σ τ = am_run d 114 131 [.ref 42, v1, .int (nI q), v3, v4, .int (nI c0), .int (nI (c0 / six q)), .int (nI 0 - 1)] [] σ' τ ∧ (∀ c, c ≠ 56 → σ' c = σ c) ∧ ∀ j, j < n → al j = true → σ' 56 j = if cnt al j < k then dgS q c0 (cnt al j) else σ 56 j := by
  intro k
  induction k with
  | zero =>
    intro σ hk hat
    refine ⟨σ, ?_, fun _ _ => rfl, fun j _ _ => by rw [if_neg (by omega)]⟩
    rw [r114_96]
    have e : nI 0 - 1 < 0 := by decide
    simp (disch := first | assumption | omega | rfl | exact Nat.le_of_ble_eq_true rfl | decide) only [r114_0, r114_1, r114_2, r114_3, r114_6, r114_9, r114_12, r114_14, r114_15, r114_16, r114_19, r114_20, r114_21, r114_22, r114_25, r114_26, r114_29, r114_31, r114_34, r114_36, r114_37, r114_38, r114_38i, r114_39, r114_42, r114_43, r114_44, r114_47, r114_48, r114_51, r114_52, r114_53, r114_54, r114_58, r114_59, r114_62, r114_63, r114_65, r114_66, r114_67, r114_70, r114_73, r114_76, r114_78, r114_79, r114_83, r114_84, r114_87, r114_89, r114_91, r114_92, r114_93, r114_94, r114_98, r114_101, r114_102, r114_105, r114_106, r114_109, r114_111, r114_112, r114_114, r114_116, r114_117, r114_118, r114_120, r114_122, r114_123, r114_125, r114_128, r114_132, r114_135, r114_136, r114_139, r114_141, r114_144, r114_145, r114_148, r114_150, r114_151, r114_155, r114_156, r114_159, r114_160, r114_163, r114_165, r114_166, r114_169, r114_170, r114_173, r114_175, r114_176, r114_177, r114_178, r114_181, r114_184, r114_187, r114_190, r114_191, r114_194, r114_196, r114_199, r114_200, r114_201, r114_204, r114_205, r114_208, r114_209, r114_210, r114_211, r114_212, r114_215, r114_216, am_gf_42_18, am_gf_42_21, am_gf_42_22, am_gf_42_23, am_pf_42_21, am_ai_56, am_ai_59, am_ai_60, am_nl_i, am_nl_r, am_nl_n, am_nl_l, Option.bind_some, Option.toList_some, Option.toList_none, List.cons_append, List.nil_append, if_true, if_false, Bool.false_eq_true, Int.reduceEq, Int.reduceAdd, ↓reduceIte, e, Nat.sub_zero]
  | succ k ih =>
    intro σ hk hat
    obtain ⟨j0, hj0, ha0, hc0⟩ := cnt_sel (P := al) (k := k) (n := n) (by omega)
    have hat0 := hat j0 hj0 ha0
    rw [hc0] at hat0
    have hk12 : k < 12 := by omega
    have hj12 : j0 < 12 := by omega
    have hdiv : c0 / six (q - (k + 1)) < 2147483648 := Nat.lt_of_le_of_lt (Nat.div_le_self _ _) hc
    have e6 : ¬ (6 : Int32) = 0 := by decide
    have hz : ¬ nI k < 0 := nI_pos (by omega)
    have edv : c0 / six (q - (k + 1)) / 6 = c0 / six (q - k) := by
      rw [Nat.div_div_eq_div_mul, show q - k = (q - (k + 1)) + 1 by omega]
      rfl
    have er : nI (c0 / six (q - (k + 1))) - nI (c0 / six (q - k)) * 6 = nI (c0 / six (q - (k + 1)) % 6) := by rw [← edv]; exact ni_r6 hdiv
    obtain ⟨σ', g1, g2, g3⟩ := ih (am_up σ 56 j0 (nI (c0 / six (q - (k + 1)) % 6))) (by omega) (fun j hj ha => by rw [am_up_ne (by decide)]; exact hat j hj ha)
    refine ⟨σ', ?_, fun c h1 => by rw [g2 c h1, am_up_ne h1], fun j hj ha => ?_⟩
    · rw [← g1, r114_96, nI_pred]
      simp (disch := first | assumption | omega | rfl | exact Nat.le_of_ble_eq_true rfl | decide) only [r114_0, r114_1, r114_2, r114_3, r114_6, r114_9, r114_12, r114_14, r114_15, r114_16, r114_19, r114_20, r114_21, r114_22, r114_25, r114_26, r114_29, r114_31, r114_34, r114_36, r114_37, r114_38, r114_38i, r114_39, r114_42, r114_43, r114_44, r114_47, r114_48, r114_51, r114_52, r114_53, r114_54, r114_58, r114_59, r114_62, r114_63, r114_65, r114_66, r114_67, r114_70, r114_73, r114_76, r114_78, r114_79, r114_83, r114_84, r114_87, r114_89, r114_91, r114_92, r114_93, r114_94, r114_98, r114_101, r114_102, r114_105, r114_106, r114_109, r114_111, r114_112, r114_114, r114_116, r114_117, r114_118, r114_120, r114_122, r114_123, r114_125, r114_128, r114_132, r114_135, r114_136, r114_139, r114_141, r114_144, r114_145, r114_148, r114_150, r114_151, r114_155, r114_156, r114_159, r114_160, r114_163, r114_165, r114_166, r114_169, r114_170, r114_173, r114_175, r114_176, r114_177, r114_178, r114_181, r114_184, r114_187, r114_190, r114_191, r114_194, r114_196, r114_199, r114_200, r114_201, r114_204, r114_205, r114_208, r114_209, r114_210, r114_211, r114_212, r114_215, r114_216, am_gf_42_18, am_gf_42_21, am_gf_42_22, am_gf_42_23, am_pf_42_21, am_ai_56, am_ai_59, am_ai_60, am_nl_i, am_nl_r, am_nl_n, am_nl_l, Option.bind_some, Option.toList_some, Option.toList_none, List.cons_append, List.nil_append, if_true, if_false, Bool.false_eq_true, Int.reduceEq, Int.reduceAdd, ↓reduceIte, hz, hat0, e6, ni_d6, edv, er, ni_pm]
    · rw [g3 j hj ha, am_up_eq]
      by_cases h1 : cnt al j < k
      · rw [if_pos h1, if_pos (by omega)]
      · rw [if_neg h1]
        by_cases h2 : cnt al j = k
        · have : j = j0 := by
            rcases Nat.lt_trichotomy j j0 with h | h | h
            · have := cnt_lt h ha; omega
            · exact h
            · have := cnt_lt h ha0; omega
          subst this
          rw [pk_us, if_pos (by omega), h2]
          unfold dgS
          rw [show q - 1 - k = q - (k + 1) by omega]
        · rw [pk_un (by intro e; subst e; omega), if_neg (by omega)]
theorem m_keepB {d n q : Nat} {τ : Int64} {al : Nat → Bool} {t : Nat → Int32} {v1 v3 v4 v5 v6 : Value} (hv6 : am_nl v6 = v6) (h12 : n ≤ 12) (hq : q = cnt al n) (h4 : q ≤ 4) : ∀ k i (σ : am_St), i + k = q → (∀ j, j < n → al j = true → σ 59 (cnt al j) = nI j ∧ σ 56 j = t (cnt al j)) → (∀ j, j < i → σ 60 j = t j) → ∃ σ' : am_St, am_run d 114 153 [.ref 42, v1, .int (nI q), v3, v4, v5, v6, .int (nI i)] [] σ τ = am_run d 114 184 [.ref 42, v1, .int (nI q), v3, v4, v5, v6, .int (nI q)] [] σ' τ ∧ (∀ c, c ≠ 60 → σ' c = σ c) ∧ ∀ j, j < q → σ' 60 j = t j := by
  intro k
  induction k with
  | zero =>
    intro i σ hi hat hb
    have e : i = q := by omega
    subst e
    refine ⟨σ, ?_, fun _ _ => rfl, hb⟩
    rw [r114_153]
    simp (disch := first | assumption | omega | rfl | exact Nat.le_of_ble_eq_true rfl | decide) only [r114_0, r114_1, r114_2, r114_3, r114_6, r114_9, r114_12, r114_14, r114_15, r114_16, r114_19, r114_20, r114_21, r114_22, r114_25, r114_26, r114_29, r114_31, r114_34, r114_36, r114_37, r114_38, r114_38i, r114_39, r114_42, r114_43, r114_44, r114_47, r114_48, r114_51, r114_52, r114_53, r114_54, r114_58, r114_59, r114_62, r114_63, r114_65, r114_66, r114_67, r114_70, r114_73, r114_76, r114_78, r114_79, r114_83, r114_84, r114_87, r114_89, r114_91, r114_92, r114_93, r114_94, r114_98, r114_101, r114_102, r114_105, r114_106, r114_109, r114_111, r114_112, r114_114, r114_116, r114_117, r114_118, r114_120, r114_122, r114_123, r114_125, r114_128, r114_131, r114_132, r114_135, r114_136, r114_139, r114_141, r114_144, r114_145, r114_148, r114_150, r114_151, r114_155, r114_156, r114_159, r114_160, r114_163, r114_165, r114_166, r114_169, r114_170, r114_173, r114_175, r114_176, r114_177, r114_178, r114_181, r114_187, r114_190, r114_191, r114_194, r114_196, r114_199, r114_200, r114_201, r114_204, r114_205, r114_208, r114_209, r114_210, r114_211, r114_212, r114_215, r114_216, am_gf_42_18, am_gf_42_21, am_gf_42_22, am_gf_42_23, am_pf_42_21, am_ai_56, am_ai_59, am_ai_60, am_nl_i, am_nl_r, am_nl_n, am_nl_l, Option.bind_some, Option.toList_some, Option.toList_none, List.cons_append, List.nil_append, if_true, if_false, Bool.false_eq_true, Int.reduceEq, Int.reduceAdd, ↓reduceIte, i_rf]
  | succ k ih =>
    intro i σ hi hat hb
    have hc : ¬ q ≤ i := by omega
    obtain ⟨j0, hj0, ha0, hc0⟩ := cnt_sel (P := al) (k := i) (n := n) (by omega)
    obtain ⟨h1, h2⟩ := hat j0 hj0 ha0
    rw [hc0] at h1 h2
    have hi4 : i < 4 := by omega
    have hi12 : i < 12 := by omega
    have hj12 : j0 < 12 := by omega
    clear hc0
    obtain ⟨σ', g1, g2, g3⟩ := ih (i + 1) (am_up σ 60 i (t i)) (by omega) (fun j hj ha => by rw [am_up_ne (by decide), am_up_ne (by decide)]; exact hat j hj ha) (fun j hj => by
      rw [am_up_eq]
      by_cases h : j = i
      · subst h; rw [pk_us]
      · rw [pk_un h]; exact hb j (by omega))
    refine ⟨σ', ?_, fun c h1 => by rw [g2 c h1, am_up_ne h1], g3⟩
    rw [← g1, r114_153]
    simp (disch := first | assumption | omega | rfl | exact Nat.le_of_ble_eq_true rfl | decide) only [r114_0, r114_1, r114_2, r114_3, r114_6, r114_9, r114_12, r114_14, r114_15, r114_16, r114_19, r114_20, r114_21, r114_22, r114_25, r114_26, r114_29, r114_31, r114_34, r114_36, r114_37, r114_38, r114_38i, r114_39, r114_42, r114_43, r114_44, r114_47, r114_48, r114_51, r114_52, r114_53, r114_54, r114_58, r114_59, r114_62, r114_63, r114_65, r114_66, r114_67, r114_70, r114_73, r114_76, r114_78, r114_79, r114_83, r114_84, r114_87, r114_89, r114_91, r114_92, r114_93, r114_94, r114_98, r114_101, r114_102, r114_105, r114_106, r114_109, r114_111, r114_112, r114_114, r114_116, r114_117, r114_118, r114_120, r114_122, r114_123, r114_125, r114_128, r114_131, r114_132, r114_135, r114_136, r114_139, r114_141, r114_144, r114_145, r114_148, r114_150, r114_151, r114_155, r114_156, r114_159, r114_160, r114_163, r114_165, r114_166, r114_169, r114_170, r114_173, r114_175, r114_176, r114_177, r114_178, r114_181, r114_187, r114_190, r114_191, r114_194, r114_196, r114_199, r114_200, r114_201, r114_204, r114_205, r114_208, r114_209, r114_210, r114_211, r114_212, r114_215, r114_216, am_gf_42_18, am_gf_42_21, am_gf_42_22, am_gf_42_23, am_pf_42_21, am_ai_56, am_ai_59, am_ai_60, am_nl_i, am_nl_r, am_nl_n, am_nl_l, Option.bind_some, Option.toList_some, Option.toList_none, List.cons_append, List.nil_append, if_true, if_false, Bool.false_eq_true, Int.reduceEq, Int.reduceAdd, ↓reduceIte, ni_le, hc, h1, h2, nI_1, hv6]
theorem mdF_b {E : Nat → Nat} {b b' : Nat} (h : E 0 < b) (h' : E 0 < b') : ∀ c, 0 < c → mdF E b c = mdF E b' c := by
  intro c
  induction c with
  | zero => intro h; omega
  | succ c ih =>
    intro _
    rcases Nat.eq_zero_or_pos c with e | e
    · subst e
      rw [mdF_s, mdF_s, if_pos (show E 0 < (mdF E b 0).1 from h), if_pos (show E 0 < (mdF E b' 0).1 from h')]
    · rw [mdF_s, mdF_s, ih e]
theorem m_mend_loop {d : Nat} {τ : Int64} {T : tS} {x : Int32} (hW : WF T) (h4 : s_q T ≤ 4) : ∀ k c (v6 v7 : Value) (σ : am_St), c + k = six (s_q T) → σ 42 6 = nI (s_n T) → (∀ j, j < s_n T → σ 46 j = s_kd T j ∧ σ 49 j = encS (s_al T) (s_g T) j ∧ σ 55 j = encS (s_al T) (s_f T) j ∧ σ 51 j = s_wr T j) → (∀ j, j < 4 → σ 57 j = s_lw T j) → (∀ j, j < s_n T → s_al T j = true → σ 59 (cnt (s_al T) j) = nI j) → (0 < c → ∀ j, j < s_q T → σ 60 j = dgS (s_q T) (mdF (erS (s_n T) (s_q T) (s_kd T) (s_wr T) (s_al T) (s_f T) (s_g T) (s_lw T)) 1000 c).2 j) →
    ∃ (σ' : am_St) (v6' v7' : Value), am_run (d + 3) 114 81 [.ref 42, .int x, .int (nI (s_q T)), .int (nI (six (s_q T))), .int (nI (mdF (erS (s_n T) (s_q T) (s_kd T) (s_wr T) (s_al T) (s_f T) (s_g T) (s_lw T)) 1000 c).1), .int (nI c), v6, v7] [] σ τ = am_run (d + 3) 114 190 [.ref 42, .int x, .int (nI (s_q T)), .int (nI (six (s_q T))), .int (nI (s_mF T 1000).1), .int (nI (six (s_q T))), v6', v7'] [] σ' τ ∧ (∀ a, a ≠ 54 → a ≠ 56 → a ≠ 60 → σ' a = σ a) ∧ ∀ j, j < s_q T → σ' 60 j = dgS (s_q T) (s_mF T 1000).2 j := by
  intro k
  have h12 := hW.1
  have h6 := six_le h4
  have h60 := six_pos (s_q T)
  have hE : ∀ c, erS (s_n T) (s_q T) (s_kd T) (s_wr T) (s_al T) (s_f T) (s_g T) (s_lw T) c ≤ 12 := fun c => Nat.le_trans (cnt_le _ _) h12
  have hM : ∀ c, (mdF (erS (s_n T) (s_q T) (s_kd T) (s_wr T) (s_al T) (s_f T) (s_g T) (s_lw T)) 1000 c).1 ≤ 1000 := fun c => mdF_le hE (by omega) c
  induction k with
  | zero =>
    intro c v6 v7 σ hc hn hkw hlw hat hb
    have e : c = six (s_q T) := by omega
    subst e
    refine ⟨σ, v6, v7, ?_, fun _ _ _ _ => rfl, hb h60⟩
    rw [r114_81]
    simp (disch := first | assumption | omega | rfl | exact Nat.le_of_ble_eq_true rfl | decide) only [r114_0, r114_1, r114_2, r114_3, r114_6, r114_9, r114_12, r114_14, r114_15, r114_16, r114_19, r114_20, r114_21, r114_22, r114_25, r114_26, r114_29, r114_31, r114_34, r114_36, r114_37, r114_38, r114_38i, r114_39, r114_42, r114_43, r114_44, r114_47, r114_48, r114_51, r114_52, r114_53, r114_54, r114_58, r114_59, r114_62, r114_63, r114_65, r114_66, r114_67, r114_70, r114_73, r114_76, r114_78, r114_79, r114_83, r114_84, r114_87, r114_89, r114_91, r114_92, r114_93, r114_94, r114_98, r114_101, r114_102, r114_105, r114_106, r114_109, r114_111, r114_112, r114_114, r114_116, r114_117, r114_118, r114_120, r114_122, r114_123, r114_125, r114_128, r114_131, r114_132, r114_135, r114_136, r114_139, r114_141, r114_144, r114_145, r114_148, r114_150, r114_151, r114_155, r114_156, r114_159, r114_160, r114_163, r114_165, r114_166, r114_169, r114_170, r114_173, r114_175, r114_176, r114_177, r114_178, r114_181, r114_184, r114_187, r114_191, r114_194, r114_196, r114_199, r114_200, r114_201, r114_204, r114_205, r114_208, r114_209, r114_210, r114_211, r114_212, r114_215, r114_216, am_gf_42_18, am_gf_42_21, am_gf_42_22, am_gf_42_23, am_pf_42_21, am_ai_56, am_ai_59, am_ai_60, am_nl_i, am_nl_r, am_nl_n, am_nl_l, Option.bind_some, Option.toList_some, Option.toList_none, List.cons_append, List.nil_append, if_true, if_false, Bool.false_eq_true, Int.reduceEq, Int.reduceAdd, ↓reduceIte, i_rf]
    rfl
  | succ k ih =>
    intro c v6 v7 σ hc hn hkw hlw hat hb
    have hc6 : ¬ six (s_q T) ≤ c := by omega
    obtain ⟨σ1, a1, a2, a3⟩ := m_digits (d := d + 3) (n := s_n T) (q := s_q T) (c0 := c) (τ := τ) (al := s_al T) (v1 := .int x) (v3 := .int (nI (six (s_q T)))) (v4 := .int (nI (mdF (erS (s_n T) (s_q T) (s_kd T) (s_wr T) (s_al T) (s_f T) (s_g T) (s_lw T)) 1000 c).1)) h12 rfl h4 (by omega) (s_q T) σ (Nat.le_refl _) hat
    rw [Nat.sub_self, show c / six 0 = c from Nat.div_one c] at a1
    have a3 : ∀ j, j < s_n T → s_al T j = true → σ1 56 j = dgS (s_q T) c (cnt (s_al T) j) := fun j hj ha => by rw [a3 j hj ha, if_pos (show cnt (s_al T) j < s_q T from cnt_lt hj ha)]
    obtain ⟨σ2, b1, b2, b3⟩ := m_layNames (d := d) (σ := σ1) (τ := τ) (n := s_n T) (kd := s_kd T) (tl := fun j => dgS (s_q T) c (cnt (s_al T) j)) (f := s_f T) (g := s_g T) (lw := s_lw T) h12 hW.kd hW.2.2.2.1 (by rw [a2 42 (by decide)]; exact hn) (PH_enc hW (fun j hj => ⟨by rw [a2 55 (by decide)]; exact (hkw j hj).2.2.1, by rw [a2 49 (by decide)]; exact (hkw j hj).2.1⟩)) (fun j hj => ⟨by rw [a2 46 (by decide)]; exact (hkw j hj).1, fun ha => a3 j hj ha⟩) (fun j hj => by rw [a2 57 (by decide)]; exact hlw j hj)
    have k2 : ∀ a, a ≠ 54 → a ≠ 56 → σ2 a = σ a := fun a u v => by rw [b2 a u, a2 a v]
    have hn2 : σ2 42 6 = nI (s_n T) := by rw [k2 42 (by decide) (by decide)]; exact hn
    have hwm := m_wrongMany (d := d + 2) (τ := τ) hn2 h12
    have ec : cnt (wrB (σ2 54) (σ2 51)) (s_n T) = erS (s_n T) (s_q T) (s_kd T) (s_wr T) (s_al T) (s_f T) (s_g T) (s_lw T) c := by
      unfold erS
      apply cnt_congr
      intro j hj
      unfold wrB
      rw [b3 j hj, k2 51 (by decide) (by decide), (hkw j hj).2.2.2]
      rfl
    rw [ec] at hwm
    have go : am_run (d + 3) 114 81 [.ref 42, .int x, .int (nI (s_q T)), .int (nI (six (s_q T))), .int (nI (mdF (erS (s_n T) (s_q T) (s_kd T) (s_wr T) (s_al T) (s_f T) (s_g T) (s_lw T)) 1000 c).1), .int (nI c), v6, v7] [] σ τ = am_run (d + 3) 114 135 [.ref 42, .int x, .int (nI (s_q T)), .int (nI (six (s_q T))), .int (nI (mdF (erS (s_n T) (s_q T) (s_kd T) (s_wr T) (s_al T) (s_f T) (s_g T) (s_lw T)) 1000 c).1), .int (nI c), .int (nI (c / six (s_q T))), .int (nI 0 - 1)] [] σ2 τ := by
      rw [r114_81]
      simp (disch := first | assumption | omega | rfl | exact Nat.le_of_ble_eq_true rfl | decide) only [r114_0, r114_1, r114_2, r114_3, r114_6, r114_9, r114_12, r114_14, r114_15, r114_16, r114_19, r114_20, r114_21, r114_22, r114_25, r114_26, r114_29, r114_31, r114_34, r114_36, r114_37, r114_38, r114_38i, r114_39, r114_42, r114_43, r114_44, r114_47, r114_48, r114_51, r114_52, r114_53, r114_54, r114_58, r114_59, r114_62, r114_63, r114_65, r114_66, r114_67, r114_70, r114_73, r114_76, r114_78, r114_79, r114_83, r114_84, r114_87, r114_89, r114_91, r114_92, r114_93, r114_94, r114_98, r114_101, r114_102, r114_105, r114_106, r114_109, r114_111, r114_112, r114_114, r114_116, r114_117, r114_118, r114_120, r114_122, r114_123, r114_125, r114_128, r114_131, r114_132, r114_136, r114_139, r114_141, r114_144, r114_145, r114_148, r114_150, r114_151, r114_155, r114_156, r114_159, r114_160, r114_163, r114_165, r114_166, r114_169, r114_170, r114_173, r114_175, r114_176, r114_177, r114_178, r114_181, r114_184, r114_187, r114_190, r114_191, r114_194, r114_196, r114_199, r114_200, r114_201, r114_204, r114_205, r114_208, r114_209, r114_210, r114_211, r114_212, r114_215, r114_216, am_gf_42_18, am_gf_42_21, am_gf_42_22, am_gf_42_23, am_pf_42_21, am_ai_56, am_ai_59, am_ai_60, am_nl_i, am_nl_r, am_nl_n, am_nl_l, Option.bind_some, Option.toList_some, Option.toList_none, List.cons_append, List.nil_append, if_true, if_false, Bool.false_eq_true, Int.reduceEq, Int.reduceAdd, ↓reduceIte, ni_le, hc6]
      rw [a1, r114_131]
      simp (disch := first | assumption | omega | rfl | exact Nat.le_of_ble_eq_true rfl | decide) only [r114_0, r114_1, r114_2, r114_3, r114_6, r114_9, r114_12, r114_14, r114_15, r114_16, r114_19, r114_20, r114_21, r114_22, r114_25, r114_26, r114_29, r114_31, r114_34, r114_36, r114_37, r114_38, r114_38i, r114_39, r114_42, r114_43, r114_44, r114_47, r114_48, r114_51, r114_52, r114_53, r114_54, r114_58, r114_59, r114_62, r114_63, r114_65, r114_66, r114_67, r114_70, r114_73, r114_76, r114_78, r114_79, r114_83, r114_84, r114_87, r114_89, r114_91, r114_92, r114_93, r114_94, r114_98, r114_101, r114_102, r114_105, r114_106, r114_109, r114_111, r114_112, r114_114, r114_116, r114_117, r114_118, r114_120, r114_122, r114_123, r114_125, r114_128, r114_132, r114_136, r114_139, r114_141, r114_144, r114_145, r114_148, r114_150, r114_151, r114_155, r114_156, r114_159, r114_160, r114_163, r114_165, r114_166, r114_169, r114_170, r114_173, r114_175, r114_176, r114_177, r114_178, r114_181, r114_184, r114_187, r114_190, r114_191, r114_194, r114_196, r114_199, r114_200, r114_201, r114_204, r114_205, r114_208, r114_209, r114_210, r114_211, r114_212, r114_215, r114_216, am_gf_42_18, am_gf_42_21, am_gf_42_22, am_gf_42_23, am_pf_42_21, am_ai_56, am_ai_59, am_ai_60, am_nl_i, am_nl_r, am_nl_n, am_nl_l, Option.bind_some, Option.toList_some, Option.toList_none, List.cons_append, List.nil_append, if_true, if_false, Bool.false_eq_true, Int.reduceEq, Int.reduceAdd, ↓reduceIte, b1]
    rw [go]
    have hEc := hE c
    have hMc := hM c
    by_cases hlt : erS (s_n T) (s_q T) (s_kd T) (s_wr T) (s_al T) (s_f T) (s_g T) (s_lw T) c < (mdF (erS (s_n T) (s_q T) (s_kd T) (s_wr T) (s_al T) (s_f T) (s_g T) (s_lw T)) 1000 c).1
    · have hs : mdF (erS (s_n T) (s_q T) (s_kd T) (s_wr T) (s_al T) (s_f T) (s_g T) (s_lw T)) 1000 (c + 1) = (erS (s_n T) (s_q T) (s_kd T) (s_wr T) (s_al T) (s_f T) (s_g T) (s_lw T) c, c) := by rw [mdF_s, if_pos hlt]
      obtain ⟨σ3, c1, c2, c3⟩ := m_keepB (d := d + 3) (n := s_n T) (q := s_q T) (τ := τ) (al := s_al T) (t := dgS (s_q T) c) (v1 := .int x) (v3 := .int (nI (six (s_q T)))) (v4 := .int (nI (erS (s_n T) (s_q T) (s_kd T) (s_wr T) (s_al T) (s_f T) (s_g T) (s_lw T) c))) (v5 := .int (nI c)) (v6 := .int (nI (c / six (s_q T)))) rfl h12 rfl h4 (s_q T) 0 σ2 (by omega) (fun j hj ha => ⟨by rw [k2 59 (by decide) (by decide)]; exact hat j hj ha, by rw [b2 56 (by decide)]; exact a3 j hj ha⟩) (fun j hj => absurd hj (Nat.not_lt_zero j))
      have k3 : ∀ a, a ≠ 54 → a ≠ 56 → a ≠ 60 → σ3 a = σ a := fun a u v w => by rw [c2 a w, k2 a u v]
      obtain ⟨σ', v6', v7', g1, g2, g3⟩ := ih (c + 1) (.int (nI (c / six (s_q T)))) (.int (nI (s_q T))) σ3 (by omega) (by rw [k3 42 (by decide) (by decide) (by decide)]; exact hn) (fun j hj => by rw [k3 46 (by decide) (by decide) (by decide), k3 49 (by decide) (by decide) (by decide), k3 55 (by decide) (by decide) (by decide), k3 51 (by decide) (by decide) (by decide)]; exact hkw j hj) (fun j hj => by rw [k3 57 (by decide) (by decide) (by decide)]; exact hlw j hj) (fun j hj ha => by rw [k3 59 (by decide) (by decide) (by decide)]; exact hat j hj ha) (fun _ j hj => by rw [hs]; exact c3 j hj)
      refine ⟨σ', v6', v7', ?_, fun a u v w => by rw [g2 a u v w, k3 a u v w], g3⟩
      rw [← g1, hs, r114_135]
      have hl2 : ¬ nI (mdF (erS (s_n T) (s_q T) (s_kd T) (s_wr T) (s_al T) (s_f T) (s_g T) (s_lw T)) 1000 c).1 ≤ nI (erS (s_n T) (s_q T) (s_kd T) (s_wr T) (s_al T) (s_f T) (s_g T) (s_lw T) c) := by rw [ni_le (by omega) (by omega)]; omega
      have e0 : nI 0 = 0 := rfl
      rw [e0] at c1
      simp (disch := first | assumption | omega | rfl | exact Nat.le_of_ble_eq_true rfl | decide) only [r114_0, r114_1, r114_2, r114_3, r114_6, r114_9, r114_12, r114_14, r114_15, r114_16, r114_19, r114_20, r114_21, r114_22, r114_25, r114_26, r114_29, r114_31, r114_34, r114_36, r114_37, r114_38, r114_38i, r114_39, r114_42, r114_43, r114_44, r114_47, r114_48, r114_51, r114_52, r114_53, r114_54, r114_58, r114_59, r114_62, r114_63, r114_65, r114_66, r114_67, r114_70, r114_73, r114_76, r114_78, r114_79, r114_83, r114_84, r114_87, r114_89, r114_91, r114_92, r114_93, r114_94, r114_98, r114_101, r114_102, r114_105, r114_106, r114_109, r114_111, r114_112, r114_114, r114_116, r114_117, r114_118, r114_120, r114_122, r114_123, r114_125, r114_128, r114_131, r114_132, r114_136, r114_139, r114_141, r114_144, r114_145, r114_148, r114_150, r114_151, r114_155, r114_156, r114_159, r114_160, r114_163, r114_165, r114_166, r114_169, r114_170, r114_173, r114_175, r114_176, r114_177, r114_178, r114_181, r114_184, r114_187, r114_190, r114_191, r114_194, r114_196, r114_199, r114_200, r114_201, r114_204, r114_205, r114_208, r114_209, r114_210, r114_211, r114_212, r114_215, r114_216, am_gf_42_18, am_gf_42_21, am_gf_42_22, am_gf_42_23, am_pf_42_21, am_ai_56, am_ai_59, am_ai_60, am_nl_i, am_nl_r, am_nl_n, am_nl_l, Option.bind_some, Option.toList_some, Option.toList_none, List.cons_append, List.nil_append, if_true, if_false, Bool.false_eq_true, Int.reduceEq, Int.reduceAdd, ↓reduceIte, hwm, hl2]
      rw [c1, r114_184]
      simp (disch := first | assumption | omega | rfl | exact Nat.le_of_ble_eq_true rfl | decide) only [r114_0, r114_1, r114_2, r114_3, r114_6, r114_9, r114_12, r114_14, r114_15, r114_16, r114_19, r114_20, r114_21, r114_22, r114_25, r114_26, r114_29, r114_31, r114_34, r114_36, r114_37, r114_38, r114_38i, r114_39, r114_42, r114_43, r114_44, r114_47, r114_48, r114_51, r114_52, r114_53, r114_54, r114_58, r114_59, r114_62, r114_63, r114_65, r114_66, r114_67, r114_70, r114_73, r114_76, r114_78, r114_79, r114_83, r114_84, r114_87, r114_89, r114_91, r114_92, r114_93, r114_94, r114_98, r114_101, r114_102, r114_105, r114_106, r114_109, r114_111, r114_112, r114_114, r114_116, r114_117, r114_118, r114_120, r114_122, r114_123, r114_125, r114_128, r114_131, r114_132, r114_136, r114_139, r114_141, r114_144, r114_145, r114_148, r114_150, r114_151, r114_155, r114_156, r114_159, r114_160, r114_163, r114_165, r114_166, r114_169, r114_170, r114_173, r114_175, r114_176, r114_177, r114_178, r114_181, r114_187, r114_190, r114_191, r114_194, r114_196, r114_199, r114_200, r114_201, r114_204, r114_205, r114_208, r114_209, r114_210, r114_211, r114_212, r114_215, r114_216, am_gf_42_18, am_gf_42_21, am_gf_42_22, am_gf_42_23, am_pf_42_21, am_ai_56, am_ai_59, am_ai_60, am_nl_i, am_nl_r, am_nl_n, am_nl_l, Option.bind_some, Option.toList_some, Option.toList_none, List.cons_append, List.nil_append, if_true, if_false, Bool.false_eq_true, Int.reduceEq, Int.reduceAdd, ↓reduceIte, nI_1]
    · have hs : mdF (erS (s_n T) (s_q T) (s_kd T) (s_wr T) (s_al T) (s_f T) (s_g T) (s_lw T)) 1000 (c + 1) = mdF (erS (s_n T) (s_q T) (s_kd T) (s_wr T) (s_al T) (s_f T) (s_g T) (s_lw T)) 1000 c := by rw [mdF_s, if_neg hlt]
      have hcp : 0 < c := by
        rcases Nat.eq_zero_or_pos c with h | h
        · subst h; exact absurd (show _ < 1000 by omega) hlt
        · exact h
      obtain ⟨σ', v6', v7', g1, g2, g3⟩ := ih (c + 1) (.int (nI (c / six (s_q T)))) (.int (nI 0 - 1)) σ2 (by omega) hn2 (fun j hj => by rw [k2 46 (by decide) (by decide), k2 49 (by decide) (by decide), k2 55 (by decide) (by decide), k2 51 (by decide) (by decide)]; exact hkw j hj) (fun j hj => by rw [k2 57 (by decide) (by decide)]; exact hlw j hj) (fun j hj ha => by rw [k2 59 (by decide) (by decide)]; exact hat j hj ha) (fun _ j hj => by rw [hs, k2 60 (by decide) (by decide)]; exact hb hcp j hj)
      refine ⟨σ', v6', v7', ?_, fun a u v w => by rw [g2 a u v w, k2 a u v], g3⟩
      rw [← g1, hs, r114_135]
      have hl2 : nI (mdF (erS (s_n T) (s_q T) (s_kd T) (s_wr T) (s_al T) (s_f T) (s_g T) (s_lw T)) 1000 c).1 ≤ nI (erS (s_n T) (s_q T) (s_kd T) (s_wr T) (s_al T) (s_f T) (s_g T) (s_lw T) c) := nI_le (by omega) (by omega)
      simp (disch := first | assumption | omega | rfl | exact Nat.le_of_ble_eq_true rfl | decide) only [r114_0, r114_1, r114_2, r114_3, r114_6, r114_9, r114_12, r114_14, r114_15, r114_16, r114_19, r114_20, r114_21, r114_22, r114_25, r114_26, r114_29, r114_31, r114_34, r114_36, r114_37, r114_38, r114_38i, r114_39, r114_42, r114_43, r114_44, r114_47, r114_48, r114_51, r114_52, r114_53, r114_54, r114_58, r114_59, r114_62, r114_63, r114_65, r114_66, r114_67, r114_70, r114_73, r114_76, r114_78, r114_79, r114_83, r114_84, r114_87, r114_89, r114_91, r114_92, r114_93, r114_94, r114_98, r114_101, r114_102, r114_105, r114_106, r114_109, r114_111, r114_112, r114_114, r114_116, r114_117, r114_118, r114_120, r114_122, r114_123, r114_125, r114_128, r114_131, r114_132, r114_136, r114_139, r114_141, r114_144, r114_145, r114_148, r114_150, r114_151, r114_155, r114_156, r114_159, r114_160, r114_163, r114_165, r114_166, r114_169, r114_170, r114_173, r114_175, r114_176, r114_177, r114_178, r114_181, r114_184, r114_187, r114_190, r114_191, r114_194, r114_196, r114_199, r114_200, r114_201, r114_204, r114_205, r114_208, r114_209, r114_210, r114_211, r114_212, r114_215, r114_216, am_gf_42_18, am_gf_42_21, am_gf_42_22, am_gf_42_23, am_pf_42_21, am_ai_56, am_ai_59, am_ai_60, am_nl_i, am_nl_r, am_nl_n, am_nl_l, Option.bind_some, Option.toList_some, Option.toList_none, List.cons_append, List.nil_append, if_true, if_false, Bool.false_eq_true, Int.reduceEq, Int.reduceAdd, ↓reduceIte, hwm, hl2, nI_1]
theorem m_mended {d : Nat} {σ : am_St} {τ : Int64} {T : tS} {x : Int32} (hR : RM σ T) (hW : WF T) : ∃ σ' : am_St, am_call (d + 3) 114 [.ref 42, .int x] σ τ = some (some (.int (sp_mended T x).1), σ', τ) ∧ RM σ' (sp_mended T x).2 ∧ ∀ c, c < 42 → σ' c = σ c := by
  have h12 := hW.1
  have hmd := hW.2.2.2.2.2.1
  have hq12 : s_q T ≤ 12 := Nat.le_trans (cnt_le _ _) h12
  show ∃ σ' : am_St, am_run (d + 3) 114 0 [.ref 42, .int x, .null, .null, .null, .null, .null, .null] [] σ τ = _ ∧ _
  unfold sp_mended
  by_cases hx : x < 0 ∨ 4 < x
  · rw [if_pos hx]
    have hi : inS x 0 4 = 0 := by
      unfold inS
      by_cases h1 : x < 0
      · rw [if_pos h1]
      · rw [if_neg h1, if_pos (hx.resolve_left h1)]
    refine ⟨σ, ?_, hR, fun _ _ => rfl⟩
    simp (disch := first | assumption | omega | rfl | exact Nat.le_of_ble_eq_true rfl | decide) only [r114_0, r114_1, r114_2, r114_3, r114_6, r114_9, r114_12, r114_14, r114_15, r114_16, r114_19, r114_20, r114_21, r114_22, r114_25, r114_26, r114_29, r114_31, r114_34, r114_36, r114_37, r114_38, r114_38i, r114_39, r114_42, r114_43, r114_44, r114_47, r114_48, r114_51, r114_52, r114_53, r114_54, r114_58, r114_59, r114_62, r114_63, r114_65, r114_66, r114_67, r114_70, r114_73, r114_76, r114_78, r114_79, r114_83, r114_84, r114_87, r114_89, r114_91, r114_92, r114_93, r114_94, r114_98, r114_101, r114_102, r114_105, r114_106, r114_109, r114_111, r114_112, r114_114, r114_116, r114_117, r114_118, r114_120, r114_122, r114_123, r114_125, r114_128, r114_131, r114_132, r114_135, r114_136, r114_139, r114_141, r114_144, r114_145, r114_148, r114_150, r114_151, r114_155, r114_156, r114_159, r114_160, r114_163, r114_165, r114_166, r114_169, r114_170, r114_173, r114_175, r114_176, r114_177, r114_178, r114_181, r114_184, r114_187, r114_190, r114_191, r114_194, r114_196, r114_199, r114_200, r114_201, r114_204, r114_205, r114_208, r114_209, r114_210, r114_211, r114_212, r114_215, r114_216, am_gf_42_18, am_gf_42_21, am_gf_42_22, am_gf_42_23, am_pf_42_21, am_ai_56, am_ai_59, am_ai_60, am_nl_i, am_nl_r, am_nl_n, am_nl_l, Option.bind_some, Option.toList_some, Option.toList_none, List.cons_append, List.nil_append, if_true, if_false, Bool.false_eq_true, Int.reduceEq, Int.reduceAdd, ↓reduceIte, c_in04, hi]
  · rw [if_neg hx]
    have h1 : ¬ x < 0 := fun q => hx (Or.inl q)
    have h2 : ¬ 4 < x := fun q => hx (Or.inr q)
    have hi : inS x 0 4 = 1 := by unfold inS; rw [if_neg h1, if_neg h2]
    obtain ⟨σ1, a1, a2, a3⟩ := m_aloneMany (d := d + 1) (τ := τ) hR hW
    have hR1 : RM σ1 T := hR.keep (KM.of (fun c hc => a2 c (by omega)))
    have hm21 : σ1 42 21 = nI (s_md T) := hR1.2.2.2.2.2.1
    by_cases hs : 4 < s_q T ∨ s_md T = 40
    · rw [if_pos hs]
      refine ⟨σ1, ?_, hR1, fun c hc => a2 c (by omega)⟩
      by_cases h4 : 4 < s_q T
      · have h4' : 4 < nI (s_q T) := (nI_ltI (a := 4) (by omega) (by omega)).mpr h4
        simp (disch := first | assumption | omega | rfl | exact Nat.le_of_ble_eq_true rfl | decide) only [r114_0, r114_1, r114_2, r114_3, r114_6, r114_9, r114_12, r114_14, r114_15, r114_16, r114_19, r114_20, r114_21, r114_22, r114_25, r114_26, r114_29, r114_31, r114_34, r114_36, r114_37, r114_38, r114_38i, r114_39, r114_42, r114_43, r114_44, r114_47, r114_48, r114_51, r114_52, r114_53, r114_54, r114_58, r114_59, r114_62, r114_63, r114_65, r114_66, r114_67, r114_70, r114_73, r114_76, r114_78, r114_79, r114_83, r114_84, r114_87, r114_89, r114_91, r114_92, r114_93, r114_94, r114_98, r114_101, r114_102, r114_105, r114_106, r114_109, r114_111, r114_112, r114_114, r114_116, r114_117, r114_118, r114_120, r114_122, r114_123, r114_125, r114_128, r114_131, r114_132, r114_135, r114_136, r114_139, r114_141, r114_144, r114_145, r114_148, r114_150, r114_151, r114_155, r114_156, r114_159, r114_160, r114_163, r114_165, r114_166, r114_169, r114_170, r114_173, r114_175, r114_176, r114_177, r114_178, r114_181, r114_184, r114_187, r114_190, r114_191, r114_194, r114_196, r114_199, r114_200, r114_201, r114_204, r114_205, r114_208, r114_209, r114_210, r114_211, r114_212, r114_215, r114_216, am_gf_42_18, am_gf_42_21, am_gf_42_22, am_gf_42_23, am_pf_42_21, am_ai_56, am_ai_59, am_ai_60, am_nl_i, am_nl_r, am_nl_n, am_nl_l, Option.bind_some, Option.toList_some, Option.toList_none, List.cons_append, List.nil_append, if_true, if_false, Bool.false_eq_true, Int.reduceEq, Int.reduceAdd, ↓reduceIte, c_in04, hi, e10, a1, h4']
      · have h4' : ¬ 4 < nI (s_q T) := by
          show ¬ nI 4 < nI (s_q T)
          rw [ni_lt (by omega) (by omega)]; exact h4
        have h40 : s_md T = 40 := hs.resolve_left h4
        have h40' : nI (s_md T) = 40 := by rw [h40]; rfl
        simp (disch := first | assumption | omega | rfl | exact Nat.le_of_ble_eq_true rfl | decide) only [r114_0, r114_1, r114_2, r114_3, r114_6, r114_9, r114_12, r114_14, r114_15, r114_16, r114_19, r114_20, r114_21, r114_22, r114_25, r114_26, r114_29, r114_31, r114_34, r114_36, r114_37, r114_38, r114_38i, r114_39, r114_42, r114_43, r114_44, r114_47, r114_48, r114_51, r114_52, r114_53, r114_54, r114_58, r114_59, r114_62, r114_63, r114_65, r114_66, r114_67, r114_70, r114_73, r114_76, r114_78, r114_79, r114_83, r114_84, r114_87, r114_89, r114_91, r114_92, r114_93, r114_94, r114_98, r114_101, r114_102, r114_105, r114_106, r114_109, r114_111, r114_112, r114_114, r114_116, r114_117, r114_118, r114_120, r114_122, r114_123, r114_125, r114_128, r114_131, r114_132, r114_135, r114_136, r114_139, r114_141, r114_144, r114_145, r114_148, r114_150, r114_151, r114_155, r114_156, r114_159, r114_160, r114_163, r114_165, r114_166, r114_169, r114_170, r114_173, r114_175, r114_176, r114_177, r114_178, r114_181, r114_184, r114_187, r114_190, r114_191, r114_194, r114_196, r114_199, r114_200, r114_201, r114_204, r114_205, r114_208, r114_209, r114_210, r114_211, r114_212, r114_215, r114_216, am_gf_42_18, am_gf_42_21, am_gf_42_22, am_gf_42_23, am_pf_42_21, am_ai_56, am_ai_59, am_ai_60, am_nl_i, am_nl_r, am_nl_n, am_nl_l, Option.bind_some, Option.toList_some, Option.toList_none, List.cons_append, List.nil_append, if_true, if_false, Bool.false_eq_true, Int.reduceEq, Int.reduceAdd, ↓reduceIte, c_in04, hi, e10, a1, h4', hm21, h40']
    · rw [if_neg hs]
      have h4 : s_q T ≤ 4 := by omega
      have h40 : ¬ s_md T = 40 := fun q => hs (Or.inr q)
      have h4' : ¬ 4 < nI (s_q T) := by
        show ¬ nI 4 < nI (s_q T)
        rw [ni_lt (by omega) (by omega)]; omega
      have h40' : ¬ nI (s_md T) = 40 := by
        show ¬ nI (s_md T) = nI 40
        rw [ni_eq (by omega) (by omega)]; exact h40
      have hR2 : RM (am_up σ1 42 21 (nI (s_md T + 1))) (x_md T (s_md T + 1)) := by
        obtain ⟨r1, r2, r3, r4, r5, r6, r7, r8⟩ := hR1
        refine ⟨by rw [am_up_eq, pk_un (by decide)]; exact r1, fun i hi => by simp (disch := decide) only [am_up_ne]; exact r2 i hi, fun i hi => by rw [am_up_ne (by decide)]; exact r3 i hi, ⟨by rw [am_up_eq, pk_un (by decide)]; exact r4.1, fun i hi => by rw [am_up_ne (by decide)]; exact r4.2 i hi⟩, by rw [am_up_eq, pk_un (by decide)]; exact r5, by rw [am_up_eq, pk_us]; rfl, by rw [am_up_eq, pk_un (by decide)]; exact r7, ?_⟩
        rw [am_up_eq, pk_un (by decide), pk_un (by decide), am_up_ne (by decide)]
        exact r8
      have hW2 : WF (x_md T (s_md T + 1)) := by
        obtain ⟨w1, w2, w3, w4, w5, w6, w7⟩ := hW
        exact ⟨w1, w2, w3, w4, w5, (by show s_md T + 1 ≤ 40; omega), w7⟩
      obtain ⟨σ2, b1, b2, b3, b4⟩ := m_asT (d := d + 2) (τ := τ) hR2 hW2
      have k2 : ∀ a, a ≠ 42 → a ≠ 55 → a ≠ 56 → a ≠ 57 → σ2 a = σ1 a := fun a u v w z => by rw [b2 a v w z, am_up_ne u]
      have hn2 : σ2 42 6 = nI (s_n T) := by rw [b2 42 (by decide) (by decide) (by decide), am_up_eq, pk_un (by decide)]; exact hR1.1
      have sx := m_six (d := d + 3) (σ := σ2) (τ := τ) (q := s_q T) (v1 := .int x) (v5 := .null) (v6 := .null) (v7 := .null) h4 (s_q T) 0 (by omega)
      obtain ⟨σ3, v6', v7', c1, c2, c3⟩ := m_mend_loop (d := d) (τ := τ) (x := x) hW h4 (six (s_q T)) 0 .null .null σ2 (by omega) hn2 (fun j hj => ⟨by rw [k2 46 (by decide) (by decide) (by decide) (by decide)]; exact (hR1.2.1 j hj).1, by rw [k2 49 (by decide) (by decide) (by decide) (by decide)]; exact (hR1.2.1 j hj).2.2.2.1, (b3 j hj).1, by rw [k2 51 (by decide) (by decide) (by decide) (by decide)]; exact (hR1.2.1 j hj).2.2.2.2.2.1⟩) b4 (fun j hj ha => by rw [k2 59 (by decide) (by decide) (by decide) (by decide)]; exact a3 j hj ha) (fun h => absurd h (by omega))
      have e0 : nI 0 = 0 := rfl
      have e1 : nI (six 0) = 1 := rfl
      have em : (mdF (erS (s_n T) (s_q T) (s_kd T) (s_wr T) (s_al T) (s_f T) (s_g T) (s_lw T)) 1000 0).1 = 1000 := rfl
      have e1000 : nI 1000 = 1000 := rfl
      rw [em, e0, e1000] at c1
      rw [e0, e1] at sx
      have emF : s_mF T 1000 = s_mF T 13 := by
        unfold s_mF
        have hE : erS (s_n T) (s_q T) (s_kd T) (s_wr T) (s_al T) (s_f T) (s_g T) (s_lw T) 0 ≤ 12 := Nat.le_trans (cnt_le _ _) h12
        exact mdF_b (by omega) (by omega) _ (six_pos _)
      rw [emF] at c1 c3
      refine ⟨σ3, ?_, hR2.keep (KM.of (fun c hc => by rw [c2 c (by omega) (by omega) (by omega), b2 c (by omega) (by omega) (by omega)])), fun c hc => by rw [c2 c (by omega) (by omega) (by omega), k2 c (by omega) (by omega) (by omega) (by omega), a2 c (by omega)]⟩
      have go : am_run (d + 3) 114 0 [.ref 42, .int x, .null, .null, .null, .null, .null, .null] [] σ τ = am_run (d + 3) 114 190 [.ref 42, .int x, .int (nI (s_q T)), .int (nI (six (s_q T))), .int (nI (s_mF T 13).1), .int (nI (six (s_q T))), v6', v7'] [] σ3 τ := by
        simp (disch := first | assumption | omega | rfl | exact Nat.le_of_ble_eq_true rfl | decide) only [r114_0, r114_1, r114_2, r114_3, r114_6, r114_9, r114_12, r114_14, r114_15, r114_16, r114_19, r114_20, r114_21, r114_22, r114_25, r114_26, r114_29, r114_31, r114_34, r114_36, r114_37, r114_38, r114_38i, r114_39, r114_42, r114_43, r114_44, r114_47, r114_48, r114_51, r114_52, r114_53, r114_54, r114_58, r114_59, r114_62, r114_63, r114_65, r114_66, r114_67, r114_70, r114_73, r114_76, r114_78, r114_79, r114_83, r114_84, r114_87, r114_89, r114_91, r114_92, r114_93, r114_94, r114_98, r114_101, r114_102, r114_105, r114_106, r114_109, r114_111, r114_112, r114_114, r114_116, r114_117, r114_118, r114_120, r114_122, r114_123, r114_125, r114_128, r114_131, r114_132, r114_135, r114_136, r114_139, r114_141, r114_144, r114_145, r114_148, r114_150, r114_151, r114_155, r114_156, r114_159, r114_160, r114_163, r114_165, r114_166, r114_169, r114_170, r114_173, r114_175, r114_176, r114_177, r114_178, r114_181, r114_184, r114_187, r114_191, r114_194, r114_196, r114_199, r114_200, r114_201, r114_204, r114_205, r114_208, r114_209, r114_210, r114_211, r114_212, r114_215, r114_216, am_gf_42_18, am_gf_42_21, am_gf_42_22, am_gf_42_23, am_pf_42_21, am_ai_56, am_ai_59, am_ai_60, am_nl_i, am_nl_r, am_nl_n, am_nl_l, Option.bind_some, Option.toList_some, Option.toList_none, List.cons_append, List.nil_append, if_true, if_false, Bool.false_eq_true, Int.reduceEq, Int.reduceAdd, ↓reduceIte, c_in04, hi, e10, a1, h4', hm21, h40', nI_1, b1]
        rw [sx, r114_73]
        simp (disch := first | assumption | omega | rfl | exact Nat.le_of_ble_eq_true rfl | decide) only [r114_0, r114_1, r114_2, r114_3, r114_6, r114_9, r114_12, r114_14, r114_15, r114_16, r114_19, r114_20, r114_21, r114_22, r114_25, r114_26, r114_29, r114_31, r114_34, r114_36, r114_37, r114_38, r114_38i, r114_39, r114_42, r114_43, r114_44, r114_47, r114_48, r114_51, r114_52, r114_53, r114_54, r114_58, r114_59, r114_62, r114_63, r114_65, r114_66, r114_67, r114_70, r114_76, r114_78, r114_79, r114_83, r114_84, r114_87, r114_89, r114_91, r114_92, r114_93, r114_94, r114_98, r114_101, r114_102, r114_105, r114_106, r114_109, r114_111, r114_112, r114_114, r114_116, r114_117, r114_118, r114_120, r114_122, r114_123, r114_125, r114_128, r114_131, r114_132, r114_135, r114_136, r114_139, r114_141, r114_144, r114_145, r114_148, r114_150, r114_151, r114_155, r114_156, r114_159, r114_160, r114_163, r114_165, r114_166, r114_169, r114_170, r114_173, r114_175, r114_176, r114_177, r114_178, r114_181, r114_184, r114_187, r114_191, r114_194, r114_196, r114_199, r114_200, r114_201, r114_204, r114_205, r114_208, r114_209, r114_210, r114_211, r114_212, r114_215, r114_216, am_gf_42_18, am_gf_42_21, am_gf_42_22, am_gf_42_23, am_pf_42_21, am_ai_56, am_ai_59, am_ai_60, am_nl_i, am_nl_r, am_nl_n, am_nl_l, Option.bind_some, Option.toList_some, Option.toList_none, List.cons_append, List.nil_append, if_true, if_false, Bool.false_eq_true, Int.reduceEq, Int.reduceAdd, ↓reduceIte]
        exact c1
      rw [go, r114_190]
      show _ = some (some (Value.int (mdS T x)), σ3, τ)
      unfold mdS
      obtain ⟨k, hk, rfl⟩ := nI_of2 (M := 4) (n := 4) (by decide) h1 (Int32.not_lt.mp h2)
      cases k with
      | zero =>
        simp (disch := first | assumption | omega | rfl | exact Nat.le_of_ble_eq_true rfl | decide) only [r114_0, r114_1, r114_2, r114_3, r114_6, r114_9, r114_12, r114_14, r114_15, r114_16, r114_19, r114_20, r114_21, r114_22, r114_25, r114_26, r114_29, r114_31, r114_34, r114_36, r114_37, r114_38, r114_38i, r114_39, r114_42, r114_43, r114_44, r114_47, r114_48, r114_51, r114_52, r114_53, r114_54, r114_58, r114_59, r114_62, r114_63, r114_65, r114_66, r114_67, r114_70, r114_73, r114_76, r114_78, r114_79, r114_83, r114_84, r114_87, r114_89, r114_91, r114_92, r114_93, r114_94, r114_98, r114_101, r114_102, r114_105, r114_106, r114_109, r114_111, r114_112, r114_114, r114_116, r114_117, r114_118, r114_120, r114_122, r114_123, r114_125, r114_128, r114_131, r114_132, r114_135, r114_136, r114_139, r114_141, r114_144, r114_145, r114_148, r114_150, r114_151, r114_155, r114_156, r114_159, r114_160, r114_163, r114_165, r114_166, r114_169, r114_170, r114_173, r114_175, r114_176, r114_177, r114_178, r114_181, r114_184, r114_187, r114_191, r114_194, r114_196, r114_199, r114_200, r114_201, r114_204, r114_205, r114_208, r114_209, r114_210, r114_211, r114_212, r114_215, r114_216, am_gf_42_18, am_gf_42_21, am_gf_42_22, am_gf_42_23, am_pf_42_21, am_ai_56, am_ai_59, am_ai_60, am_nl_i, am_nl_r, am_nl_n, am_nl_l, Option.bind_some, Option.toList_some, Option.toList_none, List.cons_append, List.nil_append, if_true, if_false, Bool.false_eq_true, Int.reduceEq, Int.reduceAdd, ↓reduceIte, e0]
      | succ j =>
        have hx0 : ¬ nI (j + 1) = 0 := nI_ne0 (by omega) (by omega)
        have hj4 : j < 4 := by omega
        by_cases hqx : s_q T ≤ j
        · have hq2 : nI (s_q T) ≤ nI j := nI_le hqx (by omega)
          have hq3 : nI (s_q T) < nI (j + 1) := (nI_ltI (by omega) (by omega)).mpr (by omega)
          simp (disch := first | assumption | omega | rfl | exact Nat.le_of_ble_eq_true rfl | decide) only [r114_0, r114_1, r114_2, r114_3, r114_6, r114_9, r114_12, r114_14, r114_15, r114_16, r114_19, r114_20, r114_21, r114_22, r114_25, r114_26, r114_29, r114_31, r114_34, r114_36, r114_37, r114_38, r114_38i, r114_39, r114_42, r114_43, r114_44, r114_47, r114_48, r114_51, r114_52, r114_53, r114_54, r114_58, r114_59, r114_62, r114_63, r114_65, r114_66, r114_67, r114_70, r114_73, r114_76, r114_78, r114_79, r114_83, r114_84, r114_87, r114_89, r114_91, r114_92, r114_93, r114_94, r114_98, r114_101, r114_102, r114_105, r114_106, r114_109, r114_111, r114_112, r114_114, r114_116, r114_117, r114_118, r114_120, r114_122, r114_123, r114_125, r114_128, r114_131, r114_132, r114_135, r114_136, r114_139, r114_141, r114_144, r114_145, r114_148, r114_150, r114_151, r114_155, r114_156, r114_159, r114_160, r114_163, r114_165, r114_166, r114_169, r114_170, r114_173, r114_175, r114_176, r114_177, r114_178, r114_181, r114_184, r114_187, r114_191, r114_194, r114_196, r114_199, r114_200, r114_201, r114_204, r114_205, r114_208, r114_209, r114_210, r114_211, r114_212, r114_215, r114_216, am_gf_42_18, am_gf_42_21, am_gf_42_22, am_gf_42_23, am_pf_42_21, am_ai_56, am_ai_59, am_ai_60, am_nl_i, am_nl_r, am_nl_n, am_nl_l, Option.bind_some, Option.toList_some, Option.toList_none, List.cons_append, List.nil_append, if_true, if_false, Bool.false_eq_true, Int.reduceEq, Int.reduceAdd, ↓reduceIte, hx0, nI_pred, hq3, hq2]
        · have hq2 : ¬ nI (s_q T) ≤ nI j := by rw [ni_le (by omega) (by omega)]; exact hqx
          have hq3 : ¬ nI (s_q T) < nI (j + 1) := by rw [ni_lt (by omega) (by omega)]; omega
          have hcj := c3 j (by omega)
          simp (disch := first | assumption | omega | rfl | exact Nat.le_of_ble_eq_true rfl | decide) only [r114_0, r114_1, r114_2, r114_3, r114_6, r114_9, r114_12, r114_14, r114_15, r114_16, r114_19, r114_20, r114_21, r114_22, r114_25, r114_26, r114_29, r114_31, r114_34, r114_36, r114_37, r114_38, r114_38i, r114_39, r114_42, r114_43, r114_44, r114_47, r114_48, r114_51, r114_52, r114_53, r114_54, r114_58, r114_59, r114_62, r114_63, r114_65, r114_66, r114_67, r114_70, r114_73, r114_76, r114_78, r114_79, r114_83, r114_84, r114_87, r114_89, r114_91, r114_92, r114_93, r114_94, r114_98, r114_101, r114_102, r114_105, r114_106, r114_109, r114_111, r114_112, r114_114, r114_116, r114_117, r114_118, r114_120, r114_122, r114_123, r114_125, r114_128, r114_131, r114_132, r114_135, r114_136, r114_139, r114_141, r114_144, r114_145, r114_148, r114_150, r114_151, r114_155, r114_156, r114_159, r114_160, r114_163, r114_165, r114_166, r114_169, r114_170, r114_173, r114_175, r114_176, r114_177, r114_178, r114_181, r114_184, r114_187, r114_191, r114_194, r114_196, r114_199, r114_200, r114_201, r114_204, r114_205, r114_208, r114_209, r114_210, r114_211, r114_212, r114_215, r114_216, am_gf_42_18, am_gf_42_21, am_gf_42_22, am_gf_42_23, am_pf_42_21, am_ai_56, am_ai_59, am_ai_60, am_nl_i, am_nl_r, am_nl_n, am_nl_l, Option.bind_some, Option.toList_some, Option.toList_none, List.cons_append, List.nil_append, if_true, if_false, Bool.false_eq_true, Int.reduceEq, Int.reduceAdd, ↓reduceIte, hx0, nI_pred, hq3, hq2, hcj, nI_clamp]
