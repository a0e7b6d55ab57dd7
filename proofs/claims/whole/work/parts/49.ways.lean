/-! the reference: ways, sure -/
theorem m_isMan {d a p n : Nat} {σ : am_St} {τ : Int64} {T : tS} (hR : ∀ j, j < s_n T → σ 47 j = s_sx T j) (h12 : s_n T ≤ 12) (ha : a < 12) (hp : p < s_n T) : am_call d 115 [.ref 42, .int (nI a), .int (nI p)] σ τ = some (some (.int (if (decide (a < p) && s_mn T a) = true then 1 else 0)), σ, τ) := by
  show am_run d 115 0 [.ref 42, .int (nI a), .int (nI p)] [] σ τ = _
  by_cases h1 : a < p
  · have h1' : ¬ nI p ≤ nI a := by rw [ni_le (by omega) (by omega)]; omega
    have q := hR a (by omega)
    rw [decide_eq_true h1, Bool.true_and]
    unfold s_mn
    by_cases h2 : s_sx T a = 0
    · rw [h2] at q
      simp (disch := first | assumption | omega | rfl | exact Nat.le_of_ble_eq_true rfl | decide) only [r115_0, r115_1, r115_2, r115_5, r115_6, r115_9, r115_10, r115_11, r115_14, r115_15, r115_18, r115_19, am_gf_42_9, am_ai_47, am_nl_i, am_nl_r, am_nl_n, am_nl_l, Option.bind_some, Option.toList_some, Option.toList_none, List.cons_append, List.nil_append, if_true, if_false, Bool.false_eq_true, Int.reduceEq, Int.reduceAdd, ↓reduceIte, h1', q, h2, decide_true]
    · have q : ¬ σ 47 a = 0 := by rw [q]; exact h2
      simp (disch := first | assumption | omega | rfl | exact Nat.le_of_ble_eq_true rfl | decide) only [r115_0, r115_1, r115_2, r115_5, r115_6, r115_9, r115_10, r115_11, r115_14, r115_15, r115_18, r115_19, am_gf_42_9, am_ai_47, am_nl_i, am_nl_r, am_nl_n, am_nl_l, Option.bind_some, Option.toList_some, Option.toList_none, List.cons_append, List.nil_append, if_true, if_false, Bool.false_eq_true, Int.reduceEq, Int.reduceAdd, ↓reduceIte, h1', q, h2, decide_false]
  · have h1' : nI p ≤ nI a := nI_le (by omega) (by omega)
    rw [decide_eq_false h1, Bool.false_and]
    simp (disch := first | assumption | omega | rfl | exact Nat.le_of_ble_eq_true rfl | decide) only [r115_0, r115_1, r115_2, r115_5, r115_6, r115_9, r115_10, r115_11, r115_14, r115_15, r115_18, r115_19, am_gf_42_9, am_ai_47, am_nl_i, am_nl_r, am_nl_n, am_nl_l, Option.bind_some, Option.toList_some, Option.toList_none, List.cons_append, List.nil_append, if_true, if_false, Bool.false_eq_true, Int.reduceEq, Int.reduceAdd, ↓reduceIte, h1']
theorem m_ways_1 {d : Nat} {τ : Int64} {T : tS} {v3 v4 v5 v6 v7 : Value} (hW : WF T) : ∀ k i (σ : am_St), i + k = s_n T → σ 42 6 = nI (s_n T) → (∀ j, j < s_n T → σ 48 j = if s_gp T j = true then -2 else encS (s_al T) (s_f T) j) → (∀ j, j < i → σ 61 j = 0 ∧ (s_gp T j = true → σ 62 (cnt (s_gp T) j) = nI j)) → ∃ σ' : am_St, am_run d 116 8 [.ref 42, .int (nI (cnt (s_gp T) i)), .int (nI i), v3, v4, v5, v6, v7] [] σ τ = am_run d 116 50 [.ref 42, .int (nI (cnt (s_gp T) (s_n T))), .int (nI (s_n T)), v3, v4, v5, v6, v7] [] σ' τ ∧ (∀ c, c ≠ 61 → c ≠ 62 → σ' c = σ c) ∧ ∀ j, j < s_n T → σ' 61 j = 0 ∧ (s_gp T j = true → σ' 62 (cnt (s_gp T) j) = nI j) := by
  intro k
  have h12 := hW.1
  have h3 := hW.2.2.1
  induction k with
  | zero =>
    intro i σ hi hn h48 h
    have e : i = s_n T := by omega
    subst e
    refine ⟨σ, ?_, fun _ _ _ => rfl, h⟩
    rw [r116_8]
    simp (disch := first | assumption | omega | rfl | exact Nat.le_of_ble_eq_true rfl | decide) only [r116_0, r116_1, r116_4, r116_5, r116_6, r116_7, r116_9, r116_10, r116_13, r116_16, r116_17, r116_20, r116_21, r116_22, r116_23, r116_24, r116_27, r116_28, r116_29, r116_31, r116_34, r116_35, r116_38, r116_39, r116_40, r116_41, r116_44, r116_47, r116_51, r116_52, r116_53, r116_56, r116_57, r116_60, r116_61, r116_62, r116_65, r116_67, r116_70, r116_71, r116_72, r116_75, r116_78, r116_81, r116_84, r116_85, r116_86, r116_90, r116_91, r116_94, r116_96, r116_98, r116_99, r116_101, r116_102, r116_106, r116_107, r116_110, r116_111, r116_114, r116_115, r116_118, r116_120, r116_121, r116_123, r116_125, r116_126, r116_127, r116_129, r116_132, r116_133, r116_135, r116_137, r116_138, r116_139, r116_142, r116_144, r116_145, r116_148, r116_151, r116_152, r116_155, r116_156, r116_158, r116_160, r116_162, r116_163, r116_165, r116_168, r116_171, r116_173, r116_176, r116_177, r116_180, r116_181, r116_184, r116_187, r116_188, r116_191, r116_192, r116_194, r116_195, r116_197, r116_200, r116_201, r116_204, r116_205, r116_206, r116_207, r116_208, r116_212, r116_213, r116_216, r116_219, r116_221, r116_224, r116_225, r116_228, r116_230, r116_231, r116_232, r116_233, r116_236, r116_238, r116_239, r116_240, r116_243, r116_244, r116_247, r116_248, r116_249, r116_252, r116_254, r116_255, r116_256, r116_257, r116_258, r116_261, r116_264, r116_267, r116_270, r116_271, am_gf_42_6, am_gf_42_10, am_gf_42_17, am_gf_42_24, am_gf_42_25, am_ai_48, am_ai_55, am_ai_61, am_ai_62, am_nl_i, am_nl_r, am_nl_n, am_nl_l, Option.bind_some, Option.toList_some, Option.toList_none, List.cons_append, List.nil_append, if_true, if_false, Bool.false_eq_true, Int.reduceEq, Int.reduceAdd, ↓reduceIte, hn, i_rf]
  | succ k ih =>
    intro i σ hi hn h48 h
    have hc : ¬ s_n T ≤ i := by omega
    have hi12 : i < 12 := by omega
    have h48i := h48 i (by omega)
    cases hg : s_gp T i with
    | true =>
      rw [hg, if_pos rfl] at h48i
      have hlt := cnt_lt (show i < s_n T by omega) hg
      have hl3 : cnt (s_gp T) i < 3 := by omega
      have es : cnt (s_gp T) (i + 1) = cnt (s_gp T) i + 1 := by rw [cnt_s, hg]; rfl
      obtain ⟨σ', g1, g2, g3⟩ := ih (i + 1) (am_up (am_up σ 61 i 0) 62 (cnt (s_gp T) i) (nI i)) (by omega) (by rw [am_up_ne (by decide), am_up_ne (by decide)]; exact hn) (fun j hj => by rw [am_up_ne (by decide), am_up_ne (by decide)]; exact h48 j hj) (fun j hj => by
        rw [am_up_ne (by decide), am_up_eq, am_up_eq]
        by_cases e : j = i
        · subst e; rw [pk_us, pk_us]; exact ⟨rfl, fun _ => rfl⟩
        · rw [pk_un e]
          refine ⟨(h j (by omega)).1, fun hgj => ?_⟩
          rw [pk_un (by have := cnt_lt (show j < i by omega) hgj; omega), am_up_ne (by decide)]
          exact (h j (by omega)).2 hgj)
      refine ⟨σ', ?_, fun c x y => by rw [g2 c x y, am_up_ne y, am_up_ne x], g3⟩
      rw [← g1, r116_8]
      simp (disch := first | assumption | omega | rfl | exact Nat.le_of_ble_eq_true rfl | decide) only [r116_0, r116_1, r116_4, r116_5, r116_6, r116_7, r116_9, r116_10, r116_13, r116_16, r116_17, r116_20, r116_21, r116_22, r116_23, r116_24, r116_27, r116_28, r116_29, r116_31, r116_34, r116_35, r116_38, r116_39, r116_40, r116_41, r116_44, r116_47, r116_51, r116_52, r116_53, r116_56, r116_57, r116_60, r116_61, r116_62, r116_65, r116_67, r116_70, r116_71, r116_72, r116_75, r116_78, r116_81, r116_84, r116_85, r116_86, r116_90, r116_91, r116_94, r116_96, r116_98, r116_99, r116_101, r116_102, r116_106, r116_107, r116_110, r116_111, r116_114, r116_115, r116_118, r116_120, r116_121, r116_123, r116_125, r116_126, r116_127, r116_129, r116_132, r116_133, r116_135, r116_137, r116_138, r116_139, r116_142, r116_144, r116_145, r116_148, r116_151, r116_152, r116_155, r116_156, r116_158, r116_160, r116_162, r116_163, r116_165, r116_168, r116_171, r116_173, r116_176, r116_177, r116_180, r116_181, r116_184, r116_187, r116_188, r116_191, r116_192, r116_194, r116_195, r116_197, r116_200, r116_201, r116_204, r116_205, r116_206, r116_207, r116_208, r116_212, r116_213, r116_216, r116_219, r116_221, r116_224, r116_225, r116_228, r116_230, r116_231, r116_232, r116_233, r116_236, r116_238, r116_239, r116_240, r116_243, r116_244, r116_247, r116_248, r116_249, r116_252, r116_254, r116_255, r116_256, r116_257, r116_258, r116_261, r116_264, r116_267, r116_270, r116_271, am_gf_42_6, am_gf_42_10, am_gf_42_17, am_gf_42_24, am_gf_42_25, am_ai_48, am_ai_55, am_ai_61, am_ai_62, am_nl_i, am_nl_r, am_nl_n, am_nl_l, Option.bind_some, Option.toList_some, Option.toList_none, List.cons_append, List.nil_append, if_true, if_false, Bool.false_eq_true, Int.reduceEq, Int.reduceAdd, ↓reduceIte, hn, ni_le, hc, am_up_ne, h48i, nI_1, es]
    | false =>
      rw [hg, if_neg (by decide)] at h48i
      have hne : ¬ σ 48 i = -2 := by
        rw [h48i]
        unfold encS
        split
        · decide
        · rename_i ha
          have := (hW.2.1 i (by omega)).2.2.1 (by simpa using ha)
          exact ni_m2 (by omega)
      have es : cnt (s_gp T) (i + 1) = cnt (s_gp T) i := by rw [cnt_s, hg]; rfl
      obtain ⟨σ', g1, g2, g3⟩ := ih (i + 1) (am_up σ 61 i 0) (by omega) (by rw [am_up_ne (by decide)]; exact hn) (fun j hj => by rw [am_up_ne (by decide)]; exact h48 j hj) (fun j hj => by
        rw [am_up_eq, am_up_ne (by decide)]
        by_cases e : j = i
        · subst e
          rw [pk_us]
          refine ⟨rfl, fun hgj => ?_⟩
          rw [hg] at hgj
          cases hgj
        · rw [pk_un e]
          exact h j (by omega))
      refine ⟨σ', ?_, fun c x y => by rw [g2 c x y, am_up_ne x], g3⟩
      rw [← g1, r116_8]
      simp (disch := first | assumption | omega | rfl | exact Nat.le_of_ble_eq_true rfl | decide) only [r116_0, r116_1, r116_4, r116_5, r116_6, r116_7, r116_9, r116_10, r116_13, r116_16, r116_17, r116_20, r116_21, r116_22, r116_23, r116_24, r116_27, r116_28, r116_29, r116_31, r116_34, r116_35, r116_38, r116_39, r116_40, r116_41, r116_44, r116_47, r116_51, r116_52, r116_53, r116_56, r116_57, r116_60, r116_61, r116_62, r116_65, r116_67, r116_70, r116_71, r116_72, r116_75, r116_78, r116_81, r116_84, r116_85, r116_86, r116_90, r116_91, r116_94, r116_96, r116_98, r116_99, r116_101, r116_102, r116_106, r116_107, r116_110, r116_111, r116_114, r116_115, r116_118, r116_120, r116_121, r116_123, r116_125, r116_126, r116_127, r116_129, r116_132, r116_133, r116_135, r116_137, r116_138, r116_139, r116_142, r116_144, r116_145, r116_148, r116_151, r116_152, r116_155, r116_156, r116_158, r116_160, r116_162, r116_163, r116_165, r116_168, r116_171, r116_173, r116_176, r116_177, r116_180, r116_181, r116_184, r116_187, r116_188, r116_191, r116_192, r116_194, r116_195, r116_197, r116_200, r116_201, r116_204, r116_205, r116_206, r116_207, r116_208, r116_212, r116_213, r116_216, r116_219, r116_221, r116_224, r116_225, r116_228, r116_230, r116_231, r116_232, r116_233, r116_236, r116_238, r116_239, r116_240, r116_243, r116_244, r116_247, r116_248, r116_249, r116_252, r116_254, r116_255, r116_256, r116_257, r116_258, r116_261, r116_264, r116_267, r116_270, r116_271, am_gf_42_6, am_gf_42_10, am_gf_42_17, am_gf_42_24, am_gf_42_25, am_ai_48, am_ai_55, am_ai_61, am_ai_62, am_nl_i, am_nl_r, am_nl_n, am_nl_l, Option.bind_some, Option.toList_some, Option.toList_none, List.cons_append, List.nil_append, if_true, if_false, Bool.false_eq_true, Int.reduceEq, Int.reduceAdd, ↓reduceIte, hn, ni_le, hc, am_up_ne, hne, nI_1, es]
theorem m_ways_3 {d c : Nat} {τ : Int64} {T : tS} {v2 v3 : Value} (hW : WF T) (hc0 : c < 2147483648) : ∀ k q (σ : am_St), q + k = cnt (s_gp T) (s_n T) → (∀ j, j < s_n T → σ 47 j = s_sx T j) → (∀ j, j < s_n T → s_gp T j = true → σ 62 (cnt (s_gp T) j) = nI j) → ∃ (σ' : am_St) (lf : Nat), am_run (d + 1) 116 104 [.ref 42, .int (nI (cnt (s_gp T) (s_n T))), v2, v3, .int (nI c), .int (nI (c / prF b12 q)), .int (if okF (s_gp T) (s_mn T) (s_n T) c q = true then 1 else 0), .int (nI q)] [] σ τ = am_run (d + 1) 116 171 [.ref 42, .int (nI (cnt (s_gp T) (s_n T))), v2, v3, .int (nI c), .int (nI lf), .int (if okF (s_gp T) (s_mn T) (s_n T) c (cnt (s_gp T) (s_n T)) = true then 1 else 0), .int (nI (cnt (s_gp T) (s_n T)))] [] σ' τ ∧ (∀ a, a ≠ 55 → σ' a = σ a) ∧ ∀ j, j < s_n T → σ' 55 j = if s_gp T j = true ∧ q ≤ cnt (s_gp T) j then nI (dgN b12 c (cnt (s_gp T) j)) else σ 55 j := by
  intro k
  have h12 := hW.1
  have h3 := hW.2.2.1
  induction k with
  | zero =>
    intro q σ hq hsx hat
    have e : q = cnt (s_gp T) (s_n T) := by omega
    subst e
    refine ⟨σ, c / prF b12 (cnt (s_gp T) (s_n T)), ?_, fun _ _ => rfl, fun j hj => by rw [if_neg (fun q => by have := cnt_lt hj q.1; omega)]⟩
    rw [r116_104]
    simp (disch := first | assumption | omega | rfl | exact Nat.le_of_ble_eq_true rfl | decide) only [r116_0, r116_1, r116_4, r116_5, r116_6, r116_7, r116_9, r116_10, r116_13, r116_16, r116_17, r116_20, r116_21, r116_22, r116_23, r116_24, r116_27, r116_28, r116_29, r116_31, r116_34, r116_35, r116_38, r116_39, r116_40, r116_41, r116_44, r116_47, r116_50, r116_51, r116_52, r116_53, r116_56, r116_57, r116_60, r116_61, r116_62, r116_65, r116_67, r116_70, r116_71, r116_72, r116_75, r116_78, r116_81, r116_84, r116_85, r116_86, r116_90, r116_91, r116_94, r116_96, r116_98, r116_99, r116_101, r116_102, r116_106, r116_107, r116_110, r116_111, r116_114, r116_115, r116_118, r116_120, r116_121, r116_123, r116_125, r116_126, r116_127, r116_129, r116_132, r116_133, r116_135, r116_137, r116_138, r116_139, r116_142, r116_144, r116_145, r116_148, r116_151, r116_152, r116_155, r116_156, r116_158, r116_160, r116_162, r116_163, r116_165, r116_168, r116_173, r116_176, r116_177, r116_180, r116_181, r116_184, r116_187, r116_188, r116_191, r116_192, r116_194, r116_195, r116_197, r116_200, r116_201, r116_204, r116_205, r116_206, r116_207, r116_208, r116_212, r116_213, r116_216, r116_219, r116_221, r116_224, r116_225, r116_228, r116_230, r116_231, r116_232, r116_233, r116_236, r116_238, r116_239, r116_240, r116_243, r116_244, r116_247, r116_248, r116_249, r116_252, r116_254, r116_255, r116_256, r116_257, r116_258, r116_261, r116_264, r116_267, r116_270, r116_271, am_gf_42_6, am_gf_42_10, am_gf_42_17, am_gf_42_24, am_gf_42_25, am_ai_48, am_ai_55, am_ai_61, am_ai_62, am_nl_i, am_nl_r, am_nl_n, am_nl_l, Option.bind_some, Option.toList_some, Option.toList_none, List.cons_append, List.nil_append, if_true, if_false, Bool.false_eq_true, Int.reduceEq, Int.reduceAdd, ↓reduceIte, i_rf]
  | succ k ih =>
    intro q σ hq hsx hat
    have hc : ¬ cnt (s_gp T) (s_n T) ≤ q := by omega
    obtain ⟨i, hi, hg, hci⟩ := cnt_sel (P := s_gp T) (k := q) (n := s_n T) (by omega)
    have e62 := hat i hi hg
    rw [hci] at e62
    have hsel : selP (s_gp T) q (s_n T) = i := by rw [← hci]; exact selP_at hi hg
    have hq3 : q < 3 := by omega
    have hi12 : i < 12 := by omega
    have hdiv : c / prF b12 q < 2147483648 := Nat.lt_of_le_of_lt (Nat.div_le_self _ _) hc0
    have hr12 : c / prF b12 q % 12 < 12 := Nat.mod_lt _ (by omega)
    have e12 : ¬ nI 12 = 0 := by decide
    have er : nI (c / prF b12 q) - nI (c / prF b12 q / 12) * nI 12 = nI (c / prF b12 q % 12) := ni_r hdiv (by decide) (by decide)
    have edv : c / prF b12 q / 12 = c / prF b12 (q + 1) := by
      rw [Nat.div_div_eq_div_mul, prF_s]
      rfl
    have edg : dgN b12 c q = c / prF b12 q % 12 := rfl
    obtain ⟨σ', lf, g1, g2, g3⟩ := ih (q + 1) (am_up σ 55 i (nI (dgN b12 c q))) (by omega) (fun j hj => by rw [am_up_ne (by decide)]; exact hsx j hj) (fun j hj h => by rw [am_up_ne (by decide)]; exact hat j hj h)
    have hman := m_isMan (d := d) (n := 0) (σ := am_up σ 55 i (nI (dgN b12 c q))) (τ := τ) (T := T) (a := dgN b12 c q) (p := i) (fun j hj => by rw [am_up_ne (by decide)]; exact hsx j hj) h12 (by rw [edg]; exact hr12) hi
    refine ⟨σ', lf, ?_, fun a h1 => by rw [g2 a h1, am_up_ne h1], fun j hj => ?_⟩
    · rw [← g1, r116_104, okF_s, hsel, ← edv]
      rw [edg] at hman ⊢
      cases hok : okF (s_gp T) (s_mn T) (s_n T) c q with
      | false =>
        simp (disch := first | assumption | omega | rfl | exact Nat.le_of_ble_eq_true rfl | decide) only [r116_0, r116_1, r116_4, r116_5, r116_6, r116_7, r116_9, r116_10, r116_13, r116_16, r116_17, r116_20, r116_21, r116_22, r116_23, r116_24, r116_27, r116_28, r116_29, r116_31, r116_34, r116_35, r116_38, r116_39, r116_40, r116_41, r116_44, r116_47, r116_50, r116_51, r116_52, r116_53, r116_56, r116_57, r116_60, r116_61, r116_62, r116_65, r116_67, r116_70, r116_71, r116_72, r116_75, r116_78, r116_81, r116_84, r116_85, r116_86, r116_90, r116_91, r116_94, r116_96, r116_98, r116_99, r116_101, r116_102, r116_106, r116_107, r116_110, r116_111, r116_114, r116_115, r116_118, r116_120, r116_121, r116_123, r116_125, r116_126, r116_127, r116_129, r116_132, r116_133, r116_135, r116_137, r116_138, r116_139, r116_142, r116_144, r116_145, r116_148, r116_151, r116_152, r116_155, r116_156, r116_158, r116_160, r116_162, r116_163, r116_165, r116_168, r116_173, r116_176, r116_177, r116_180, r116_181, r116_184, r116_187, r116_188, r116_191, r116_192, r116_194, r116_195, r116_197, r116_200, r116_201, r116_204, r116_205, r116_206, r116_207, r116_208, r116_212, r116_213, r116_216, r116_219, r116_221, r116_224, r116_225, r116_228, r116_230, r116_231, r116_232, r116_233, r116_236, r116_238, r116_239, r116_240, r116_243, r116_244, r116_247, r116_248, r116_249, r116_252, r116_254, r116_255, r116_256, r116_257, r116_258, r116_261, r116_264, r116_267, r116_270, r116_271, am_gf_42_6, am_gf_42_10, am_gf_42_17, am_gf_42_24, am_gf_42_25, am_ai_48, am_ai_55, am_ai_61, am_ai_62, am_nl_i, am_nl_r, am_nl_n, am_nl_l, Option.bind_some, Option.toList_some, Option.toList_none, List.cons_append, List.nil_append, if_true, if_false, Bool.false_eq_true, Int.reduceEq, Int.reduceAdd, ↓reduceIte, ni_le, hc, e62, show (12 : Int32) = nI 12 from rfl, e12, ni_d, er, nI_1, Bool.false_and]
      | true =>
        cases hm : (decide (c / prF b12 q % 12 < i) && s_mn T (c / prF b12 q % 12)) with
        | false =>
          rw [hm] at hman
          simp (disch := first | assumption | omega | rfl | exact Nat.le_of_ble_eq_true rfl | decide) only [r116_0, r116_1, r116_4, r116_5, r116_6, r116_7, r116_9, r116_10, r116_13, r116_16, r116_17, r116_20, r116_21, r116_22, r116_23, r116_24, r116_27, r116_28, r116_29, r116_31, r116_34, r116_35, r116_38, r116_39, r116_40, r116_41, r116_44, r116_47, r116_50, r116_51, r116_52, r116_53, r116_56, r116_57, r116_60, r116_61, r116_62, r116_65, r116_67, r116_70, r116_71, r116_72, r116_75, r116_78, r116_81, r116_84, r116_85, r116_86, r116_90, r116_91, r116_94, r116_96, r116_98, r116_99, r116_101, r116_102, r116_106, r116_107, r116_110, r116_111, r116_114, r116_115, r116_118, r116_120, r116_121, r116_123, r116_125, r116_126, r116_127, r116_129, r116_132, r116_133, r116_135, r116_137, r116_138, r116_139, r116_142, r116_144, r116_145, r116_148, r116_151, r116_152, r116_155, r116_156, r116_158, r116_160, r116_162, r116_163, r116_165, r116_168, r116_173, r116_176, r116_177, r116_180, r116_181, r116_184, r116_187, r116_188, r116_191, r116_192, r116_194, r116_195, r116_197, r116_200, r116_201, r116_204, r116_205, r116_206, r116_207, r116_208, r116_212, r116_213, r116_216, r116_219, r116_221, r116_224, r116_225, r116_228, r116_230, r116_231, r116_232, r116_233, r116_236, r116_238, r116_239, r116_240, r116_243, r116_244, r116_247, r116_248, r116_249, r116_252, r116_254, r116_255, r116_256, r116_257, r116_258, r116_261, r116_264, r116_267, r116_270, r116_271, am_gf_42_6, am_gf_42_10, am_gf_42_17, am_gf_42_24, am_gf_42_25, am_ai_48, am_ai_55, am_ai_61, am_ai_62, am_nl_i, am_nl_r, am_nl_n, am_nl_l, Option.bind_some, Option.toList_some, Option.toList_none, List.cons_append, List.nil_append, if_true, if_false, Bool.false_eq_true, Int.reduceEq, Int.reduceAdd, ↓reduceIte, ni_le, hc, am_up_ne, e62, show (12 : Int32) = nI 12 from rfl, e12, ni_d, er, nI_1, e10, hman, Bool.and_false]
        | true =>
          rw [hm] at hman
          simp (disch := first | assumption | omega | rfl | exact Nat.le_of_ble_eq_true rfl | decide) only [r116_0, r116_1, r116_4, r116_5, r116_6, r116_7, r116_9, r116_10, r116_13, r116_16, r116_17, r116_20, r116_21, r116_22, r116_23, r116_24, r116_27, r116_28, r116_29, r116_31, r116_34, r116_35, r116_38, r116_39, r116_40, r116_41, r116_44, r116_47, r116_50, r116_51, r116_52, r116_53, r116_56, r116_57, r116_60, r116_61, r116_62, r116_65, r116_67, r116_70, r116_71, r116_72, r116_75, r116_78, r116_81, r116_84, r116_85, r116_86, r116_90, r116_91, r116_94, r116_96, r116_98, r116_99, r116_101, r116_102, r116_106, r116_107, r116_110, r116_111, r116_114, r116_115, r116_118, r116_120, r116_121, r116_123, r116_125, r116_126, r116_127, r116_129, r116_132, r116_133, r116_135, r116_137, r116_138, r116_139, r116_142, r116_144, r116_145, r116_148, r116_151, r116_152, r116_155, r116_156, r116_158, r116_160, r116_162, r116_163, r116_165, r116_168, r116_173, r116_176, r116_177, r116_180, r116_181, r116_184, r116_187, r116_188, r116_191, r116_192, r116_194, r116_195, r116_197, r116_200, r116_201, r116_204, r116_205, r116_206, r116_207, r116_208, r116_212, r116_213, r116_216, r116_219, r116_221, r116_224, r116_225, r116_228, r116_230, r116_231, r116_232, r116_233, r116_236, r116_238, r116_239, r116_240, r116_243, r116_244, r116_247, r116_248, r116_249, r116_252, r116_254, r116_255, r116_256, r116_257, r116_258, r116_261, r116_264, r116_267, r116_270, r116_271, am_gf_42_6, am_gf_42_10, am_gf_42_17, am_gf_42_24, am_gf_42_25, am_ai_48, am_ai_55, am_ai_61, am_ai_62, am_nl_i, am_nl_r, am_nl_n, am_nl_l, Option.bind_some, Option.toList_some, Option.toList_none, List.cons_append, List.nil_append, if_true, if_false, Bool.false_eq_true, Int.reduceEq, Int.reduceAdd, ↓reduceIte, ni_le, hc, am_up_ne, e62, show (12 : Int32) = nI 12 from rfl, e12, ni_d, er, nI_1, e10, hman, Bool.and_self]
    · rw [g3 j hj, am_up_eq]
      by_cases h1 : s_gp T j = true ∧ q + 1 ≤ cnt (s_gp T) j
      · rw [if_pos h1, if_pos ⟨h1.1, by omega⟩]
      · rw [if_neg h1]
        by_cases h2 : s_gp T j = true ∧ q ≤ cnt (s_gp T) j
        · have hcj : cnt (s_gp T) j = q := by
            rcases Nat.lt_or_ge q (cnt (s_gp T) j) with h | h
            · exact absurd ⟨h2.1, h⟩ h1
            · omega
          have : j = i := by
            rcases Nat.lt_trichotomy j i with h | h | h
            · have := cnt_lt h h2.1; omega
            · exact h
            · have := cnt_lt h hg; omega
          subst this
          rw [pk_us, if_pos h2, hcj]
        · rw [if_neg h2, pk_un (by intro e; subst e; exact h2 ⟨hg, by omega⟩)]
theorem m_ways_4 {d : Nat} {τ : Int64} {T : tS} {F : Nat → Nat} {v1 v2 v3 v4 v5 : Value} (hW : WF T) (hF : ∀ j, j < s_n T → s_al T j = false → F j < 12) : ∀ k i (σ : am_St), i + k = s_n T → σ 42 6 = nI (s_n T) → (∀ j, j < s_n T → σ 55 j = encS (s_al T) F j) → ∃ σ' : am_St, am_run d 116 210 [.ref 42, v1, v2, v3, v4, v5, .int 1, .int (nI i)] [] σ τ = am_run d 116 264 [.ref 42, v1, v2, v3, v4, v5, .int 1, .int (nI (s_n T))] [] σ' τ ∧ (∀ a, a ≠ 61 → σ' a = σ a) ∧ ∀ j, j < s_n T → ∀ x, x < 32 → bt (σ' 61 j) x = (bt (σ 61 j) x || (decide (i ≤ j) && (!s_al T j && decide (F j = x)))) := by
  intro k
  have h12 := hW.1
  induction k with
  | zero =>
    intro i σ hi hn h55
    have e : i = s_n T := by omega
    subst e
    refine ⟨σ, ?_, fun _ _ => rfl, fun j hj x hx => by rw [decide_eq_false (by omega), Bool.false_and, Bool.or_false]⟩
    rw [r116_210]
    simp (disch := first | assumption | omega | rfl | exact Nat.le_of_ble_eq_true rfl | decide) only [r116_0, r116_1, r116_4, r116_5, r116_6, r116_7, r116_9, r116_10, r116_13, r116_16, r116_17, r116_20, r116_21, r116_22, r116_23, r116_24, r116_27, r116_28, r116_29, r116_31, r116_34, r116_35, r116_38, r116_39, r116_40, r116_41, r116_44, r116_47, r116_50, r116_51, r116_52, r116_53, r116_56, r116_57, r116_60, r116_61, r116_62, r116_65, r116_67, r116_70, r116_71, r116_72, r116_75, r116_78, r116_81, r116_84, r116_85, r116_86, r116_90, r116_91, r116_94, r116_96, r116_98, r116_99, r116_101, r116_102, r116_106, r116_107, r116_110, r116_111, r116_114, r116_115, r116_118, r116_120, r116_121, r116_123, r116_125, r116_126, r116_127, r116_129, r116_132, r116_133, r116_135, r116_137, r116_138, r116_139, r116_142, r116_144, r116_145, r116_148, r116_151, r116_152, r116_155, r116_156, r116_158, r116_160, r116_162, r116_163, r116_165, r116_168, r116_171, r116_173, r116_176, r116_177, r116_180, r116_181, r116_184, r116_187, r116_188, r116_191, r116_192, r116_194, r116_195, r116_197, r116_200, r116_201, r116_204, r116_205, r116_206, r116_207, r116_208, r116_212, r116_213, r116_216, r116_219, r116_221, r116_224, r116_225, r116_228, r116_230, r116_231, r116_232, r116_233, r116_236, r116_238, r116_239, r116_240, r116_243, r116_244, r116_247, r116_248, r116_249, r116_252, r116_254, r116_255, r116_256, r116_257, r116_258, r116_261, r116_267, r116_270, r116_271, am_gf_42_6, am_gf_42_10, am_gf_42_17, am_gf_42_24, am_gf_42_25, am_ai_48, am_ai_55, am_ai_61, am_ai_62, am_nl_i, am_nl_r, am_nl_n, am_nl_l, Option.bind_some, Option.toList_some, Option.toList_none, List.cons_append, List.nil_append, if_true, if_false, Bool.false_eq_true, Int.reduceEq, Int.reduceAdd, ↓reduceIte, hn, i_rf]
  | succ k ih =>
    intro i σ hi hn h55
    have hc : ¬ s_n T ≤ i := by omega
    have hi12 : i < 12 := by omega
    have e55 := h55 i (by omega)
    have step : ∀ y : Int32, (∀ x, x < 32 → bt y x = (bt (σ 61 i) x || (!s_al T i && decide (F i = x)))) → ∃ σ' : am_St, am_run d 116 210 [.ref 42, v1, v2, v3, v4, v5, .int 1, .int (nI (i + 1))] [] (am_up σ 61 i y) τ = am_run d 116 264 [.ref 42, v1, v2, v3, v4, v5, .int 1, .int (nI (s_n T))] [] σ' τ ∧ (∀ a, a ≠ 61 → σ' a = σ a) ∧ ∀ j, j < s_n T → ∀ x, x < 32 → bt (σ' 61 j) x = (bt (σ 61 j) x || (decide (i ≤ j) && (!s_al T j && decide (F j = x)))) := by
      intro y hy
      obtain ⟨σ', g1, g2, g3⟩ := ih (i + 1) (am_up σ 61 i y) (by omega) (by rw [am_up_ne (by decide)]; exact hn) (fun j hj => by rw [am_up_ne (by decide)]; exact h55 j hj)
      refine ⟨σ', g1, fun a h => by rw [g2 a h, am_up_ne h], fun j hj x hx => ?_⟩
      rw [g3 j hj x hx, am_up_eq]
      by_cases e : j = i
      · subst e
        rw [pk_us, hy x hx, decide_eq_false (show ¬ j + 1 ≤ j by omega), decide_eq_true (Nat.le_refl j), Bool.false_and, Bool.or_false, Bool.true_and]
      · rw [pk_un e]
        by_cases h : i ≤ j
        · rw [decide_eq_true h, decide_eq_true (show i + 1 ≤ j by omega)]
        · rw [decide_eq_false h, decide_eq_false (show ¬ i + 1 ≤ j by omega)]
    unfold encS at e55
    cases hal : s_al T i with
    | true =>
      rw [if_pos hal] at e55
      obtain ⟨σ', g1, g2⟩ := step (σ 61 i ||| 0) (fun x hx => by rw [i_or0, hal, Bool.not_true, Bool.false_and, Bool.or_false])
      refine ⟨σ', ?_, g2⟩
      rw [← g1, r116_210]
      simp (disch := first | assumption | omega | rfl | exact Nat.le_of_ble_eq_true rfl | decide) only [r116_0, r116_1, r116_4, r116_5, r116_6, r116_7, r116_9, r116_10, r116_13, r116_16, r116_17, r116_20, r116_21, r116_22, r116_23, r116_24, r116_27, r116_28, r116_29, r116_31, r116_34, r116_35, r116_38, r116_39, r116_40, r116_41, r116_44, r116_47, r116_50, r116_51, r116_52, r116_53, r116_56, r116_57, r116_60, r116_61, r116_62, r116_65, r116_67, r116_70, r116_71, r116_72, r116_75, r116_78, r116_81, r116_84, r116_85, r116_86, r116_90, r116_91, r116_94, r116_96, r116_98, r116_99, r116_101, r116_102, r116_106, r116_107, r116_110, r116_111, r116_114, r116_115, r116_118, r116_120, r116_121, r116_123, r116_125, r116_126, r116_127, r116_129, r116_132, r116_133, r116_135, r116_137, r116_138, r116_139, r116_142, r116_144, r116_145, r116_148, r116_151, r116_152, r116_155, r116_156, r116_158, r116_160, r116_162, r116_163, r116_165, r116_168, r116_171, r116_173, r116_176, r116_177, r116_180, r116_181, r116_184, r116_187, r116_188, r116_191, r116_192, r116_194, r116_195, r116_197, r116_200, r116_201, r116_204, r116_205, r116_206, r116_207, r116_208, r116_212, r116_213, r116_216, r116_219, r116_221, r116_224, r116_225, r116_228, r116_230, r116_231, r116_232, r116_233, r116_236, r116_238, r116_239, r116_240, r116_243, r116_244, r116_247, r116_248, r116_249, r116_252, r116_254, r116_255, r116_256, r116_257, r116_258, r116_261, r116_267, r116_270, r116_271, am_gf_42_6, am_gf_42_10, am_gf_42_17, am_gf_42_24, am_gf_42_25, am_ai_48, am_ai_55, am_ai_61, am_ai_62, am_nl_i, am_nl_r, am_nl_n, am_nl_l, Option.bind_some, Option.toList_some, Option.toList_none, List.cons_append, List.nil_append, if_true, if_false, Bool.false_eq_true, Int.reduceEq, Int.reduceAdd, ↓reduceIte, hn, ni_le, hc, e10, e55, nI_1]
    | false =>
      rw [if_neg (by rw [hal]; decide)] at e55
      have hf := hF i (by omega) hal
      have hne : ¬ nI (F i) = -1 := am_nm1 (by omega)
      obtain ⟨σ', g1, g2⟩ := step (σ 61 i ||| ((1 : Int32) <<< (nI (F i) &&& 31))) (fun x hx => by
        rw [bt_or1 (by omega) hx, hal, Bool.not_false, Bool.true_and]
        by_cases e : x = F i
        · rw [decide_eq_true e, decide_eq_true e.symm]
        · rw [decide_eq_false e, decide_eq_false (fun q => e q.symm)])
      refine ⟨σ', ?_, g2⟩
      rw [← g1, r116_210]
      simp (disch := first | assumption | omega | rfl | exact Nat.le_of_ble_eq_true rfl | decide) only [r116_0, r116_1, r116_4, r116_5, r116_6, r116_7, r116_9, r116_10, r116_13, r116_16, r116_17, r116_20, r116_21, r116_22, r116_23, r116_24, r116_27, r116_28, r116_29, r116_31, r116_34, r116_35, r116_38, r116_39, r116_40, r116_41, r116_44, r116_47, r116_50, r116_51, r116_52, r116_53, r116_56, r116_57, r116_60, r116_61, r116_62, r116_65, r116_67, r116_70, r116_71, r116_72, r116_75, r116_78, r116_81, r116_84, r116_85, r116_86, r116_90, r116_91, r116_94, r116_96, r116_98, r116_99, r116_101, r116_102, r116_106, r116_107, r116_110, r116_111, r116_114, r116_115, r116_118, r116_120, r116_121, r116_123, r116_125, r116_126, r116_127, r116_129, r116_132, r116_133, r116_135, r116_137, r116_138, r116_139, r116_142, r116_144, r116_145, r116_148, r116_151, r116_152, r116_155, r116_156, r116_158, r116_160, r116_162, r116_163, r116_165, r116_168, r116_171, r116_173, r116_176, r116_177, r116_180, r116_181, r116_184, r116_187, r116_188, r116_191, r116_192, r116_194, r116_195, r116_197, r116_200, r116_201, r116_204, r116_205, r116_206, r116_207, r116_208, r116_212, r116_213, r116_216, r116_219, r116_221, r116_224, r116_225, r116_228, r116_230, r116_231, r116_232, r116_233, r116_236, r116_238, r116_239, r116_240, r116_243, r116_244, r116_247, r116_248, r116_249, r116_252, r116_254, r116_255, r116_256, r116_257, r116_258, r116_261, r116_267, r116_270, r116_271, am_gf_42_6, am_gf_42_10, am_gf_42_17, am_gf_42_24, am_gf_42_25, am_ai_48, am_ai_55, am_ai_61, am_ai_62, am_nl_i, am_nl_r, am_nl_n, am_nl_l, Option.bind_some, Option.toList_some, Option.toList_none, List.cons_append, List.nil_append, if_true, if_false, Bool.false_eq_true, Int.reduceEq, Int.reduceAdd, ↓reduceIte, hn, ni_le, hc, e10, e55, hne, nI_1]
theorem p12_le {G : Nat} (h : G ≤ 3) : prF b12 G ≤ 1728 := prF_le (fun _ => Nat.le_refl 12) G h
theorem m_ways_2 {d : Nat} {τ : Int64} {T : tS} (hW : WF T) : ∀ k c (v5 v6 v7 : Value) (σ : am_St), c + k = prF b12 (cnt (s_gp T) (s_n T)) → RM σ T → (∀ j, j < s_n T → s_gp T j = true → σ 62 (cnt (s_gp T) j) = nI j) → (∀ j, j < s_n T → s_gp T j = false → σ 55 j = encS (s_al T) (s_f T) j) → (∀ j, j < s_n T → σ 56 j = s_tl T j) → (∀ j, j < 4 → σ 57 j = s_lw T j) → (∀ p, p < s_n T → ∀ x, x < 32 → bt (σ 61 p) x = mbB T c p x) → ∃ σ' : am_St, am_run (d + 3) 116 88 [.ref 42, .int (nI (cnt (s_gp T) (s_n T))), .int (nI (cnt (wdB T) c)), .int (nI (prF b12 (cnt (s_gp T) (s_n T)))), .int (nI c), v5, v6, v7] [] σ τ = some (some (.int (nI (s_ways T))), σ', τ) ∧ (∀ a, a ≠ 54 → a ≠ 55 → a ≠ 61 → σ' a = σ a) ∧ ∀ p, p < s_n T → ∀ x, x < 32 → bt (σ' 61 p) x = mbB T (prF b12 (cnt (s_gp T) (s_n T))) p x := by
  intro k
  have h12 := hW.1
  have h3 := hW.2.2.1
  have hA := p12_le h3
  induction k with
  | zero =>
    intro c v5 v6 v7 σ hc hR hat hby h56 h57 hmb
    have e : c = prF b12 (cnt (s_gp T) (s_n T)) := by omega
    subst e
    refine ⟨σ, ?_, fun _ _ _ _ => rfl, hmb⟩
    rw [r116_88, ways_eq hW]
    simp (disch := first | assumption | omega | rfl | exact Nat.le_of_ble_eq_true rfl | decide) only [r116_0, r116_1, r116_4, r116_5, r116_6, r116_7, r116_9, r116_10, r116_13, r116_16, r116_17, r116_20, r116_21, r116_22, r116_23, r116_24, r116_27, r116_28, r116_29, r116_31, r116_34, r116_35, r116_38, r116_39, r116_40, r116_41, r116_44, r116_47, r116_50, r116_51, r116_52, r116_53, r116_56, r116_57, r116_60, r116_61, r116_62, r116_65, r116_67, r116_70, r116_71, r116_72, r116_75, r116_78, r116_81, r116_84, r116_85, r116_86, r116_90, r116_91, r116_94, r116_96, r116_98, r116_99, r116_101, r116_102, r116_106, r116_107, r116_110, r116_111, r116_114, r116_115, r116_118, r116_120, r116_121, r116_123, r116_125, r116_126, r116_127, r116_129, r116_132, r116_133, r116_135, r116_137, r116_138, r116_139, r116_142, r116_144, r116_145, r116_148, r116_151, r116_152, r116_155, r116_156, r116_158, r116_160, r116_162, r116_163, r116_165, r116_168, r116_171, r116_173, r116_176, r116_177, r116_180, r116_181, r116_184, r116_187, r116_188, r116_191, r116_192, r116_194, r116_195, r116_197, r116_200, r116_201, r116_204, r116_205, r116_206, r116_207, r116_208, r116_212, r116_213, r116_216, r116_219, r116_221, r116_224, r116_225, r116_228, r116_230, r116_231, r116_232, r116_233, r116_236, r116_238, r116_239, r116_240, r116_243, r116_244, r116_247, r116_248, r116_249, r116_252, r116_254, r116_255, r116_256, r116_257, r116_258, r116_261, r116_264, r116_267, r116_270, r116_271, am_gf_42_6, am_gf_42_10, am_gf_42_17, am_gf_42_24, am_gf_42_25, am_ai_48, am_ai_55, am_ai_61, am_ai_62, am_nl_i, am_nl_r, am_nl_n, am_nl_l, Option.bind_some, Option.toList_some, Option.toList_none, List.cons_append, List.nil_append, if_true, if_false, Bool.false_eq_true, Int.reduceEq, Int.reduceAdd, ↓reduceIte, i_rf]
  | succ k ih =>
    intro c v5 v6 v7 σ hc hR hat hby h56 h57 hmb
    have hc6 : ¬ prF b12 (cnt (s_gp T) (s_n T)) ≤ c := by omega
    have hcn := cnt_le (wdB T) c
    obtain ⟨σ1, lf, a1, a2, a3⟩ := m_ways_3 (d := d + 2) (c := c) (τ := τ) (T := T) (v2 := .int (nI (cnt (wdB T) c))) (v3 := .int (nI (prF b12 (cnt (s_gp T) (s_n T))))) hW (by omega) (cnt (s_gp T) (s_n T)) 0 σ (by omega) (fun j hj => (hR.2.1 j hj).2.1) hat
    have h55 : ∀ j, j < s_n T → σ1 55 j = encS (s_al T) (fdS (s_gp T) (s_f T) c) j := by
      intro j hj
      rw [a3 j hj]
      cases hg : s_gp T j with
      | true =>
        rw [if_pos ⟨rfl, Nat.zero_le _⟩]
        unfold encS fdS
        have hal := (hW.2.1 j hj).2.2.2.1 hg
        rw [if_neg (by rw [hal]; decide), if_pos hg]
      | false =>
        rw [if_neg (fun q => Bool.noConfusion q.1), hby j hj hg]
        unfold encS fdS
        rw [if_neg (show ¬ s_gp T j = true by rw [hg]; decide)]
    have hn1 : σ1 42 6 = nI (s_n T) := by rw [a2 42 (by decide)]; exact hR.1
    have e0 : nI 0 = 0 := rfl
    have go : am_run (d + 3) 116 88 [.ref 42, .int (nI (cnt (s_gp T) (s_n T))), .int (nI (cnt (wdB T) c)), .int (nI (prF b12 (cnt (s_gp T) (s_n T)))), .int (nI c), v5, v6, v7] [] σ τ = am_run (d + 3) 116 171 [.ref 42, .int (nI (cnt (s_gp T) (s_n T))), .int (nI (cnt (wdB T) c)), .int (nI (prF b12 (cnt (s_gp T) (s_n T)))), .int (nI c), .int (nI lf), .int (if okF (s_gp T) (s_mn T) (s_n T) c (cnt (s_gp T) (s_n T)) = true then 1 else 0), .int (nI (cnt (s_gp T) (s_n T)))] [] σ1 τ := by
      rw [← a1, r116_88]
      have eo : (if okF (s_gp T) (s_mn T) (s_n T) c 0 = true then (1 : Int32) else 0) = 1 := rfl
      rw [show c / prF b12 0 = c from Nat.div_one c, eo, e0]
      simp (disch := first | assumption | omega | rfl | exact Nat.le_of_ble_eq_true rfl | decide) only [r116_0, r116_1, r116_4, r116_5, r116_6, r116_7, r116_9, r116_10, r116_13, r116_16, r116_17, r116_20, r116_21, r116_22, r116_23, r116_24, r116_27, r116_28, r116_29, r116_31, r116_34, r116_35, r116_38, r116_39, r116_40, r116_41, r116_44, r116_47, r116_50, r116_51, r116_52, r116_53, r116_56, r116_57, r116_60, r116_61, r116_62, r116_65, r116_67, r116_70, r116_71, r116_72, r116_75, r116_78, r116_81, r116_84, r116_85, r116_86, r116_90, r116_91, r116_94, r116_96, r116_98, r116_99, r116_101, r116_102, r116_106, r116_107, r116_110, r116_111, r116_114, r116_115, r116_118, r116_120, r116_121, r116_123, r116_125, r116_126, r116_127, r116_129, r116_132, r116_133, r116_135, r116_137, r116_138, r116_139, r116_142, r116_144, r116_145, r116_148, r116_151, r116_152, r116_155, r116_156, r116_158, r116_160, r116_162, r116_163, r116_165, r116_168, r116_171, r116_173, r116_176, r116_177, r116_180, r116_181, r116_184, r116_187, r116_188, r116_191, r116_192, r116_194, r116_195, r116_197, r116_200, r116_201, r116_204, r116_205, r116_206, r116_207, r116_208, r116_212, r116_213, r116_216, r116_219, r116_221, r116_224, r116_225, r116_228, r116_230, r116_231, r116_232, r116_233, r116_236, r116_238, r116_239, r116_240, r116_243, r116_244, r116_247, r116_248, r116_249, r116_252, r116_254, r116_255, r116_256, r116_257, r116_258, r116_261, r116_264, r116_267, r116_270, r116_271, am_gf_42_6, am_gf_42_10, am_gf_42_17, am_gf_42_24, am_gf_42_25, am_ai_48, am_ai_55, am_ai_61, am_ai_62, am_nl_i, am_nl_r, am_nl_n, am_nl_l, Option.bind_some, Option.toList_some, Option.toList_none, List.cons_append, List.nil_append, if_true, if_false, Bool.false_eq_true, Int.reduceEq, Int.reduceAdd, ↓reduceIte, ni_le, hc6]
    rw [go, r116_171]
    -- when it is no way
    have no : ∀ (σ2 : am_St) (v7' : Value), wdB T c = false → (∀ a, a ≠ 54 → a ≠ 55 → σ2 a = σ a) → (∀ j, j < s_n T → s_gp T j = false → σ2 55 j = encS (s_al T) (s_f T) j) → ∃ σ' : am_St, am_run (d + 3) 116 194 [.ref 42, .int (nI (cnt (s_gp T) (s_n T))), .int (nI (cnt (wdB T) c)), .int (nI (prF b12 (cnt (s_gp T) (s_n T)))), .int (nI c), .int (nI lf), .int 0, v7'] [] σ2 τ = some (some (.int (nI (s_ways T))), σ', τ) ∧ (∀ a, a ≠ 54 → a ≠ 55 → a ≠ 61 → σ' a = σ a) ∧ ∀ p, p < s_n T → ∀ x, x < 32 → bt (σ' 61 p) x = mbB T (prF b12 (cnt (s_gp T) (s_n T))) p x := by
      intro σ2 v7' hwd k2 hby2
      have es : cnt (wdB T) (c + 1) = cnt (wdB T) c := by rw [cnt_s, hwd]; rfl
      have hR2 : RM σ2 T := hR.keep (KM.of (fun a ha => k2 a (by omega) (by omega)))
      have hn2 := hR2.1
      obtain ⟨σ', g1, g2, g3⟩ := ih (c + 1) (.int (nI lf)) (.int 0) (.int 0) σ2 (by omega) hR2 (fun j hj h => by rw [k2 62 (by decide) (by decide)]; exact hat j hj h) hby2 (fun j hj => by rw [k2 56 (by decide) (by decide)]; exact h56 j hj) (fun j hj => by rw [k2 57 (by decide) (by decide)]; exact h57 j hj) (fun p hp x hx => by
        rw [k2 61 (by decide) (by decide), hmb p hp x hx]
        unfold mbB
        rw [anyB_s, hwd, Bool.false_and, Bool.or_false])
      refine ⟨σ', ?_, fun a x y z => by rw [g2 a x y z, k2 a x y], g3⟩
      rw [← g1, es, r116_194]
      have ea : ∀ x : Int32, x + 0 = x := fun x => by simp
      by_cases hz : s_n T ≤ 0
      · simp (disch := first | assumption | omega | rfl | exact Nat.le_of_ble_eq_true rfl | decide) only [r116_0, r116_1, r116_4, r116_5, r116_6, r116_7, r116_9, r116_10, r116_13, r116_16, r116_17, r116_20, r116_21, r116_22, r116_23, r116_24, r116_27, r116_28, r116_29, r116_31, r116_34, r116_35, r116_38, r116_39, r116_40, r116_41, r116_44, r116_47, r116_50, r116_51, r116_52, r116_53, r116_56, r116_57, r116_60, r116_61, r116_62, r116_65, r116_67, r116_70, r116_71, r116_72, r116_75, r116_78, r116_81, r116_84, r116_85, r116_86, r116_90, r116_91, r116_94, r116_96, r116_98, r116_99, r116_101, r116_102, r116_106, r116_107, r116_110, r116_111, r116_114, r116_115, r116_118, r116_120, r116_121, r116_123, r116_125, r116_126, r116_127, r116_129, r116_132, r116_133, r116_135, r116_137, r116_138, r116_139, r116_142, r116_144, r116_145, r116_148, r116_151, r116_152, r116_155, r116_156, r116_158, r116_160, r116_162, r116_163, r116_165, r116_168, r116_171, r116_173, r116_176, r116_177, r116_180, r116_181, r116_184, r116_187, r116_188, r116_191, r116_192, r116_195, r116_197, r116_200, r116_201, r116_204, r116_205, r116_206, r116_207, r116_208, r116_210, r116_212, r116_213, r116_216, r116_219, r116_221, r116_224, r116_225, r116_228, r116_230, r116_231, r116_232, r116_233, r116_236, r116_238, r116_239, r116_240, r116_243, r116_244, r116_247, r116_248, r116_249, r116_252, r116_254, r116_255, r116_256, r116_257, r116_258, r116_261, r116_264, r116_267, r116_270, r116_271, am_gf_42_6, am_gf_42_10, am_gf_42_17, am_gf_42_24, am_gf_42_25, am_ai_48, am_ai_55, am_ai_61, am_ai_62, am_nl_i, am_nl_r, am_nl_n, am_nl_l, Option.bind_some, Option.toList_some, Option.toList_none, List.cons_append, List.nil_append, if_true, if_false, Bool.false_eq_true, Int.reduceEq, Int.reduceAdd, ↓reduceIte, hn2, show (0 : Int32) = nI 0 from rfl, ni_le, hz, nI_1]
        rw [e0, ea]
      · simp (disch := first | assumption | omega | rfl | exact Nat.le_of_ble_eq_true rfl | decide) only [r116_0, r116_1, r116_4, r116_5, r116_6, r116_7, r116_9, r116_10, r116_13, r116_16, r116_17, r116_20, r116_21, r116_22, r116_23, r116_24, r116_27, r116_28, r116_29, r116_31, r116_34, r116_35, r116_38, r116_39, r116_40, r116_41, r116_44, r116_47, r116_50, r116_51, r116_52, r116_53, r116_56, r116_57, r116_60, r116_61, r116_62, r116_65, r116_67, r116_70, r116_71, r116_72, r116_75, r116_78, r116_81, r116_84, r116_85, r116_86, r116_90, r116_91, r116_94, r116_96, r116_98, r116_99, r116_101, r116_102, r116_106, r116_107, r116_110, r116_111, r116_114, r116_115, r116_118, r116_120, r116_121, r116_123, r116_125, r116_126, r116_127, r116_129, r116_132, r116_133, r116_135, r116_137, r116_138, r116_139, r116_142, r116_144, r116_145, r116_148, r116_151, r116_152, r116_155, r116_156, r116_158, r116_160, r116_162, r116_163, r116_165, r116_168, r116_171, r116_173, r116_176, r116_177, r116_180, r116_181, r116_184, r116_187, r116_188, r116_191, r116_192, r116_195, r116_197, r116_200, r116_201, r116_204, r116_205, r116_206, r116_207, r116_208, r116_210, r116_212, r116_213, r116_216, r116_219, r116_221, r116_224, r116_225, r116_228, r116_230, r116_231, r116_232, r116_233, r116_236, r116_238, r116_239, r116_240, r116_243, r116_244, r116_247, r116_248, r116_249, r116_252, r116_254, r116_255, r116_256, r116_257, r116_258, r116_261, r116_264, r116_267, r116_270, r116_271, am_gf_42_6, am_gf_42_10, am_gf_42_17, am_gf_42_24, am_gf_42_25, am_ai_48, am_ai_55, am_ai_61, am_ai_62, am_nl_i, am_nl_r, am_nl_n, am_nl_l, Option.bind_some, Option.toList_some, Option.toList_none, List.cons_append, List.nil_append, if_true, if_false, Bool.false_eq_true, Int.reduceEq, Int.reduceAdd, ↓reduceIte, hn2, show (0 : Int32) = nI 0 from rfl, ni_le, hz, nI_1]
        rw [e0, ea]
    cases hok : okF (s_gp T) (s_mn T) (s_n T) c (cnt (s_gp T) (s_n T)) with
    | false =>
      have hwd : wdB T c = false := by unfold wdB; rw [hok, Bool.false_and]
      obtain ⟨σ', g1, g2⟩ := no σ1 (.int (nI (cnt (s_gp T) (s_n T)))) hwd (fun a x y => a2 a y) (fun j hj hg => by
        rw [h55 j hj]
        unfold encS fdS
        rw [if_neg (show ¬ s_gp T j = true by rw [hg]; decide)])
      refine ⟨σ', ?_, g2⟩
      rw [← g1]
      simp (disch := first | assumption | omega | rfl | exact Nat.le_of_ble_eq_true rfl | decide) only [r116_0, r116_1, r116_4, r116_5, r116_6, r116_7, r116_9, r116_10, r116_13, r116_16, r116_17, r116_20, r116_21, r116_22, r116_23, r116_24, r116_27, r116_28, r116_29, r116_31, r116_34, r116_35, r116_38, r116_39, r116_40, r116_41, r116_44, r116_47, r116_50, r116_51, r116_52, r116_53, r116_56, r116_57, r116_60, r116_61, r116_62, r116_65, r116_67, r116_70, r116_71, r116_72, r116_75, r116_78, r116_81, r116_84, r116_85, r116_86, r116_90, r116_91, r116_94, r116_96, r116_98, r116_99, r116_101, r116_102, r116_106, r116_107, r116_110, r116_111, r116_114, r116_115, r116_118, r116_120, r116_121, r116_123, r116_125, r116_126, r116_127, r116_129, r116_132, r116_133, r116_135, r116_137, r116_138, r116_139, r116_142, r116_144, r116_145, r116_148, r116_151, r116_152, r116_155, r116_156, r116_158, r116_160, r116_162, r116_163, r116_165, r116_168, r116_173, r116_176, r116_177, r116_180, r116_181, r116_184, r116_187, r116_188, r116_191, r116_192, r116_195, r116_197, r116_200, r116_201, r116_204, r116_205, r116_206, r116_207, r116_208, r116_212, r116_213, r116_216, r116_219, r116_221, r116_224, r116_225, r116_228, r116_230, r116_231, r116_232, r116_233, r116_236, r116_238, r116_239, r116_240, r116_243, r116_244, r116_247, r116_248, r116_249, r116_252, r116_254, r116_255, r116_256, r116_257, r116_258, r116_261, r116_264, r116_267, r116_270, r116_271, am_gf_42_6, am_gf_42_10, am_gf_42_17, am_gf_42_24, am_gf_42_25, am_ai_48, am_ai_55, am_ai_61, am_ai_62, am_nl_i, am_nl_r, am_nl_n, am_nl_l, Option.bind_some, Option.toList_some, Option.toList_none, List.cons_append, List.nil_append, if_true, if_false, Bool.false_eq_true, Int.reduceEq, Int.reduceAdd, ↓reduceIte]
    | true =>
      have hok' := okF_iff (cnt (s_gp T) (s_n T)) |>.mp hok
      have hlt : ∀ j, j < s_n T → s_al T j = false → fdS (s_gp T) (s_f T) c j < j := by
        intro j hj hal
        unfold fdS
        cases hg : s_gp T j with
        | true =>
          rw [if_pos rfl]
          have hk := cnt_lt hj hg
          have := (hok' _ hk).1
          rw [selP_at hj hg] at this
          exact this
        | false =>
          rw [if_neg (by decide)]
          exact (hW.pS j hj hal).1
      have hP : PH (s_n T) (s_al T) (fdS (s_gp T) (s_f T) c) (s_g T) (σ1 55) (σ1 49) := by
        intro i hi
        have e49 : σ1 49 i = encS (s_al T) (s_g T) i := by rw [a2 49 (by decide)]; exact (hR.2.1 i hi).2.2.2.1
        rw [h55 i hi, e49]
        unfold encS
        refine ⟨fun ha => by rw [if_pos ha, if_pos ha]; exact ⟨rfl, rfl⟩, fun ha => ?_⟩
        rw [if_neg (by rw [ha]; decide), if_neg (by rw [ha]; decide)]
        exact ⟨rfl, rfl, hlt i hi ha, (hW.pS i hi ha).2⟩
      obtain ⟨σ2, b1, b2, b3⟩ := m_layNames (d := d) (σ := σ1) (τ := τ) (n := s_n T) (kd := s_kd T) (tl := s_tl T) (f := fdS (s_gp T) (s_f T) c) (g := s_g T) (lw := s_lw T) h12 hW.kd hW.2.2.2.1 hn1 hP (fun j hj => ⟨by rw [a2 46 (by decide)]; exact (hR.2.1 j hj).1, fun _ => by rw [a2 56 (by decide)]; exact h56 j hj⟩) (fun j hj => by rw [a2 57 (by decide)]; exact h57 j hj)
      have k2 : ∀ a, a ≠ 54 → a ≠ 55 → σ2 a = σ a := fun a x y => by rw [b2 a x, a2 a y]
      have hn2 : σ2 42 6 = nI (s_n T) := by rw [k2 42 (by decide) (by decide)]; exact hR.1
      have hwm := m_wrongMany (d := d + 2) (τ := τ) hn2 h12
      have ec : cnt (wrB (σ2 54) (σ2 51)) (s_n T) = cnt (wrB (nmS (s_kd T) (s_tl T) (s_al T) (fdS (s_gp T) (s_f T) c) (s_g T) (s_lw T) (s_n T)) (s_wr T)) (s_n T) := by
        apply cnt_congr
        intro j hj
        unfold wrB
        rw [b3 j hj, k2 51 (by decide) (by decide), (hR.2.1 j hj).2.2.2.2.2.1]
        rfl
      rw [ec] at hwm
      have hwd : wdB T c = decide (cnt (wrB (nmS (s_kd T) (s_tl T) (s_al T) (fdS (s_gp T) (s_f T) c) (s_g T) (s_lw T) (s_n T)) (s_wr T)) (s_n T) = 0) := by unfold wdB; rw [hok, Bool.true_and]
      have hle : cnt (wrB (nmS (s_kd T) (s_tl T) (s_al T) (fdS (s_gp T) (s_f T) c) (s_g T) (s_lw T) (s_n T)) (s_wr T)) (s_n T) ≤ 12 := Nat.le_trans (cnt_le _ _) h12
      generalize cnt (wrB (nmS (s_kd T) (s_tl T) (s_al T) (fdS (s_gp T) (s_f T) c) (s_g T) (s_lw T) (s_n T)) (s_wr T)) (s_n T) = E at hwm hwd hle
      by_cases hE : E = 0
      · rw [decide_eq_true hE] at hwd
        have ez : nI E = 0 := by rw [hE]; rfl
        have es : cnt (wdB T) (c + 1) = cnt (wdB T) c + 1 := by rw [cnt_s, hwd]; rfl
        have hR2 : RM σ2 T := hR.keep (KM.of (fun a ha => k2 a (by omega) (by omega)))
        obtain ⟨σ3, c1, c2, c3⟩ := m_ways_4 (d := d + 3) (τ := τ) (T := T) (F := fdS (s_gp T) (s_f T) c) (v1 := .int (nI (cnt (s_gp T) (s_n T)))) (v2 := .int (nI (cnt (wdB T) c + 1))) (v3 := .int (nI (prF b12 (cnt (s_gp T) (s_n T))))) (v4 := .int (nI c)) (v5 := .int (nI lf)) hW (fun j hj ha => by have := hlt j hj ha; omega) (s_n T) 0 σ2 (by omega) hn2 (fun j hj => by rw [b2 55 (by decide)]; exact h55 j hj)
        have k3 : ∀ a, a ≠ 54 → a ≠ 55 → a ≠ 61 → σ3 a = σ a := fun a x y z => by rw [c2 a z, k2 a x y]
        obtain ⟨σ', g1, g2, g3⟩ := ih (c + 1) (.int (nI lf)) (.int 1) (.int (nI (s_n T))) σ3 (by omega) (hR2.keep (KM.of (fun a ha => c2 a (by omega)))) (fun j hj h => by rw [k3 62 (by decide) (by decide) (by decide)]; exact hat j hj h) (fun j hj hg => by
          rw [c2 55 (by decide), b2 55 (by decide), h55 j hj]
          unfold encS fdS
          rw [if_neg (show ¬ s_gp T j = true by rw [hg]; decide)]) (fun j hj => by rw [k3 56 (by decide) (by decide) (by decide)]; exact h56 j hj) (fun j hj => by rw [k3 57 (by decide) (by decide) (by decide)]; exact h57 j hj) (fun p hp x hx => by
          rw [c3 p hp x hx, k2 61 (by decide) (by decide), hmb p hp x hx, decide_eq_true (Nat.zero_le p), Bool.true_and]
          unfold mbB
          rw [anyB_s, hwd, Bool.true_and])
        refine ⟨σ', ?_, fun a x y z => by rw [g2 a x y z, k3 a x y z], g3⟩
        rw [e0] at c1
        rw [← g1, es]
        simp (disch := first | assumption | omega | rfl | exact Nat.le_of_ble_eq_true rfl | decide) only [r116_0, r116_1, r116_4, r116_5, r116_6, r116_7, r116_9, r116_10, r116_13, r116_16, r116_17, r116_20, r116_21, r116_22, r116_23, r116_24, r116_27, r116_28, r116_29, r116_31, r116_34, r116_35, r116_38, r116_39, r116_40, r116_41, r116_44, r116_47, r116_50, r116_51, r116_52, r116_53, r116_56, r116_57, r116_60, r116_61, r116_62, r116_65, r116_67, r116_70, r116_71, r116_72, r116_75, r116_78, r116_81, r116_84, r116_85, r116_86, r116_90, r116_91, r116_94, r116_96, r116_98, r116_99, r116_101, r116_102, r116_106, r116_107, r116_110, r116_111, r116_114, r116_115, r116_118, r116_120, r116_121, r116_123, r116_125, r116_126, r116_127, r116_129, r116_132, r116_133, r116_135, r116_137, r116_138, r116_139, r116_142, r116_144, r116_145, r116_148, r116_151, r116_152, r116_155, r116_156, r116_158, r116_160, r116_162, r116_163, r116_165, r116_168, r116_173, r116_176, r116_177, r116_180, r116_181, r116_184, r116_187, r116_188, r116_191, r116_192, r116_194, r116_195, r116_197, r116_200, r116_201, r116_204, r116_205, r116_206, r116_207, r116_208, r116_212, r116_213, r116_216, r116_219, r116_221, r116_224, r116_225, r116_228, r116_230, r116_231, r116_232, r116_233, r116_236, r116_238, r116_239, r116_240, r116_243, r116_244, r116_247, r116_248, r116_249, r116_252, r116_254, r116_255, r116_256, r116_257, r116_258, r116_261, r116_264, r116_267, r116_270, r116_271, am_gf_42_6, am_gf_42_10, am_gf_42_17, am_gf_42_24, am_gf_42_25, am_ai_48, am_ai_55, am_ai_61, am_ai_62, am_nl_i, am_nl_r, am_nl_n, am_nl_l, Option.bind_some, Option.toList_some, Option.toList_none, List.cons_append, List.nil_append, if_true, if_false, Bool.false_eq_true, Int.reduceEq, Int.reduceAdd, ↓reduceIte, e10, b1, hwm, ez, nI_1]
        rw [c1, r116_264]
        simp (disch := first | assumption | omega | rfl | exact Nat.le_of_ble_eq_true rfl | decide) only [r116_0, r116_1, r116_4, r116_5, r116_6, r116_7, r116_9, r116_10, r116_13, r116_16, r116_17, r116_20, r116_21, r116_22, r116_23, r116_24, r116_27, r116_28, r116_29, r116_31, r116_34, r116_35, r116_38, r116_39, r116_40, r116_41, r116_44, r116_47, r116_50, r116_51, r116_52, r116_53, r116_56, r116_57, r116_60, r116_61, r116_62, r116_65, r116_67, r116_70, r116_71, r116_72, r116_75, r116_78, r116_81, r116_84, r116_85, r116_86, r116_90, r116_91, r116_94, r116_96, r116_98, r116_99, r116_101, r116_102, r116_106, r116_107, r116_110, r116_111, r116_114, r116_115, r116_118, r116_120, r116_121, r116_123, r116_125, r116_126, r116_127, r116_129, r116_132, r116_133, r116_135, r116_137, r116_138, r116_139, r116_142, r116_144, r116_145, r116_148, r116_151, r116_152, r116_155, r116_156, r116_158, r116_160, r116_162, r116_163, r116_165, r116_168, r116_173, r116_176, r116_177, r116_180, r116_181, r116_184, r116_187, r116_188, r116_191, r116_192, r116_194, r116_195, r116_197, r116_200, r116_201, r116_204, r116_205, r116_206, r116_207, r116_208, r116_212, r116_213, r116_216, r116_219, r116_221, r116_224, r116_225, r116_228, r116_230, r116_231, r116_232, r116_233, r116_236, r116_238, r116_239, r116_240, r116_243, r116_244, r116_247, r116_248, r116_249, r116_252, r116_254, r116_255, r116_256, r116_257, r116_258, r116_261, r116_267, r116_270, r116_271, am_gf_42_6, am_gf_42_10, am_gf_42_17, am_gf_42_24, am_gf_42_25, am_ai_48, am_ai_55, am_ai_61, am_ai_62, am_nl_i, am_nl_r, am_nl_n, am_nl_l, Option.bind_some, Option.toList_some, Option.toList_none, List.cons_append, List.nil_append, if_true, if_false, Bool.false_eq_true, Int.reduceEq, Int.reduceAdd, ↓reduceIte, nI_1]
      · rw [decide_eq_false hE] at hwd
        have ez : ¬ nI E = 0 := nI_ne0 (by omega) (by omega)
        obtain ⟨σ', g1, g2⟩ := no σ2 (.int (nI (cnt (s_gp T) (s_n T)))) hwd k2 (fun j hj hg => by
          rw [b2 55 (by decide), h55 j hj]
          unfold encS fdS
          rw [if_neg (show ¬ s_gp T j = true by rw [hg]; decide)])
        refine ⟨σ', ?_, g2⟩
        rw [← g1]
        simp (disch := first | assumption | omega | rfl | exact Nat.le_of_ble_eq_true rfl | decide) only [r116_0, r116_1, r116_4, r116_5, r116_6, r116_7, r116_9, r116_10, r116_13, r116_16, r116_17, r116_20, r116_21, r116_22, r116_23, r116_24, r116_27, r116_28, r116_29, r116_31, r116_34, r116_35, r116_38, r116_39, r116_40, r116_41, r116_44, r116_47, r116_50, r116_51, r116_52, r116_53, r116_56, r116_57, r116_60, r116_61, r116_62, r116_65, r116_67, r116_70, r116_71, r116_72, r116_75, r116_78, r116_81, r116_84, r116_85, r116_86, r116_90, r116_91, r116_94, r116_96, r116_98, r116_99, r116_101, r116_102, r116_106, r116_107, r116_110, r116_111, r116_114, r116_115, r116_118, r116_120, r116_121, r116_123, r116_125, r116_126, r116_127, r116_129, r116_132, r116_133, r116_135, r116_137, r116_138, r116_139, r116_142, r116_144, r116_145, r116_148, r116_151, r116_152, r116_155, r116_156, r116_158, r116_160, r116_162, r116_163, r116_165, r116_168, r116_173, r116_176, r116_177, r116_180, r116_181, r116_184, r116_187, r116_188, r116_191, r116_192, r116_195, r116_197, r116_200, r116_201, r116_204, r116_205, r116_206, r116_207, r116_208, r116_212, r116_213, r116_216, r116_219, r116_221, r116_224, r116_225, r116_228, r116_230, r116_231, r116_232, r116_233, r116_236, r116_238, r116_239, r116_240, r116_243, r116_244, r116_247, r116_248, r116_249, r116_252, r116_254, r116_255, r116_256, r116_257, r116_258, r116_261, r116_264, r116_267, r116_270, r116_271, am_gf_42_6, am_gf_42_10, am_gf_42_17, am_gf_42_24, am_gf_42_25, am_ai_48, am_ai_55, am_ai_61, am_ai_62, am_nl_i, am_nl_r, am_nl_n, am_nl_l, Option.bind_some, Option.toList_some, Option.toList_none, List.cons_append, List.nil_append, if_true, if_false, Bool.false_eq_true, Int.reduceEq, Int.reduceAdd, ↓reduceIte, e10, b1, hwm, ez]
theorem m_layWays {d : Nat} {σ : am_St} {τ : Int64} {T : tS} (hR : RM σ T) (hW : WF T) : ∃ σ' : am_St, am_call (d + 3) 116 [.ref 42] σ τ = some (some (.int (nI (s_ways T))), σ', τ) ∧ (∀ a, (a < 54 ∨ a = 58 ∨ a = 59 ∨ a = 60 ∨ 62 < a) → σ' a = σ a) ∧ ∀ p, p < s_n T → ∀ x, x < 32 → bt (σ' 61 p) x = mbB T (prF b12 (cnt (s_gp T) (s_n T))) p x := by
  have h3 := hW.2.2.1
  obtain ⟨σ1, a1, a2, a3, a4⟩ := m_asT (d := d + 2) (τ := τ) hR hW
  obtain ⟨σ2, b1, b2, b3⟩ := m_ways_1 (d := d + 3) (τ := τ) (T := T) (v3 := .null) (v4 := .null) (v5 := .null) (v6 := .null) (v7 := .null) hW (s_n T) 0 σ1 (by omega) (by rw [a2 42 (by decide) (by decide) (by decide)]; exact hR.1) (fun j hj => by rw [a2 48 (by decide) (by decide) (by decide)]; exact (hR.2.1 j hj).2.2.1) (fun j hj => absurd hj (Nat.not_lt_zero j))
  have k2 : ∀ a, (a < 54 ∨ a = 58 ∨ a = 59 ∨ a = 60 ∨ 62 < a) → σ2 a = σ a := fun a h => by rw [b2 a (by omega) (by omega), a2 a (by omega) (by omega) (by omega)]
  obtain ⟨σ', g1, g2, g3⟩ := m_ways_2 (d := d) (τ := τ) (T := T) hW (prF b12 (cnt (s_gp T) (s_n T))) 0 .null .null .null σ2 (by omega) (hR.keep (KM.of (fun a ha => k2 a (by omega)))) (fun j hj h => (b3 j hj).2 h) (fun j hj _ => by rw [b2 55 (by decide) (by decide)]; exact (a3 j hj).1) (fun j hj => by rw [b2 56 (by decide) (by decide)]; exact (a3 j hj).2) (fun j hj => by rw [b2 57 (by decide) (by decide)]; exact a4 j hj) (fun p hp x hx => by rw [(b3 p hp).1, b_0]; rfl)
  refine ⟨σ', ?_, fun a h => by rw [g2 a (by omega) (by omega) (by omega), k2 a h], g3⟩
  show am_run (d + 3) 116 0 [.ref 42, .null, .null, .null, .null, .null, .null, .null] [] σ τ = _
  have e0 : nI 0 = 0 := rfl
  have ec0 : nI (cnt (s_gp T) 0) = 0 := rfl
  have ec1 : nI (cnt (wdB T) 0) = 0 := rfl
  rw [ec0, e0] at b1
  rw [ec1, e0] at g1
  simp (disch := first | assumption | omega | rfl | exact Nat.le_of_ble_eq_true rfl | decide) only [r116_0, r116_1, r116_4, r116_5, r116_6, r116_7, r116_9, r116_10, r116_13, r116_16, r116_17, r116_20, r116_21, r116_22, r116_23, r116_24, r116_27, r116_28, r116_29, r116_31, r116_34, r116_35, r116_38, r116_39, r116_40, r116_41, r116_44, r116_47, r116_50, r116_51, r116_52, r116_53, r116_56, r116_57, r116_60, r116_61, r116_62, r116_65, r116_67, r116_70, r116_71, r116_72, r116_75, r116_78, r116_81, r116_84, r116_85, r116_86, r116_90, r116_91, r116_94, r116_96, r116_98, r116_99, r116_101, r116_102, r116_106, r116_107, r116_110, r116_111, r116_114, r116_115, r116_118, r116_120, r116_121, r116_123, r116_125, r116_126, r116_127, r116_129, r116_132, r116_133, r116_135, r116_137, r116_138, r116_139, r116_142, r116_144, r116_145, r116_148, r116_151, r116_152, r116_155, r116_156, r116_158, r116_160, r116_162, r116_163, r116_165, r116_168, r116_171, r116_173, r116_176, r116_177, r116_180, r116_181, r116_184, r116_187, r116_188, r116_191, r116_192, r116_194, r116_195, r116_197, r116_200, r116_201, r116_204, r116_205, r116_206, r116_207, r116_208, r116_212, r116_213, r116_216, r116_219, r116_221, r116_224, r116_225, r116_228, r116_230, r116_231, r116_232, r116_233, r116_236, r116_238, r116_239, r116_240, r116_243, r116_244, r116_247, r116_248, r116_249, r116_252, r116_254, r116_255, r116_256, r116_257, r116_258, r116_261, r116_264, r116_267, r116_270, r116_271, am_gf_42_6, am_gf_42_10, am_gf_42_17, am_gf_42_24, am_gf_42_25, am_ai_48, am_ai_55, am_ai_61, am_ai_62, am_nl_i, am_nl_r, am_nl_n, am_nl_l, Option.bind_some, Option.toList_some, Option.toList_none, List.cons_append, List.nil_append, if_true, if_false, Bool.false_eq_true, Int.reduceEq, Int.reduceAdd, ↓reduceIte, a1]
  rw [b1, r116_50]
  rcases (show cnt (s_gp T) (s_n T) = 0 ∨ cnt (s_gp T) (s_n T) = 1 ∨ cnt (s_gp T) (s_n T) = 2 ∨ cnt (s_gp T) (s_n T) = 3 by omega) with h | h | h | h
  · rw [h] at g1 ⊢
    have p0 : nI (prF b12 0) = 1 := rfl
    rw [p0, e0] at g1
    simp (disch := first | assumption | omega | rfl | exact Nat.le_of_ble_eq_true rfl | decide) only [r116_0, r116_1, r116_4, r116_5, r116_6, r116_7, r116_9, r116_10, r116_13, r116_16, r116_17, r116_20, r116_21, r116_22, r116_23, r116_24, r116_27, r116_28, r116_29, r116_31, r116_34, r116_35, r116_38, r116_39, r116_40, r116_41, r116_44, r116_47, r116_51, r116_52, r116_53, r116_56, r116_57, r116_60, r116_61, r116_62, r116_65, r116_67, r116_70, r116_71, r116_72, r116_75, r116_78, r116_81, r116_84, r116_85, r116_86, r116_90, r116_91, r116_94, r116_96, r116_98, r116_99, r116_101, r116_102, r116_106, r116_107, r116_110, r116_111, r116_114, r116_115, r116_118, r116_120, r116_121, r116_123, r116_125, r116_126, r116_127, r116_129, r116_132, r116_133, r116_135, r116_137, r116_138, r116_139, r116_142, r116_144, r116_145, r116_148, r116_151, r116_152, r116_155, r116_156, r116_158, r116_160, r116_162, r116_163, r116_165, r116_168, r116_171, r116_173, r116_176, r116_177, r116_180, r116_181, r116_184, r116_187, r116_188, r116_191, r116_192, r116_194, r116_195, r116_197, r116_200, r116_201, r116_204, r116_205, r116_206, r116_207, r116_208, r116_212, r116_213, r116_216, r116_219, r116_221, r116_224, r116_225, r116_228, r116_230, r116_231, r116_232, r116_233, r116_236, r116_238, r116_239, r116_240, r116_243, r116_244, r116_247, r116_248, r116_249, r116_252, r116_254, r116_255, r116_256, r116_257, r116_258, r116_261, r116_264, r116_267, r116_270, r116_271, am_gf_42_6, am_gf_42_10, am_gf_42_17, am_gf_42_24, am_gf_42_25, am_ai_48, am_ai_55, am_ai_61, am_ai_62, am_nl_i, am_nl_r, am_nl_n, am_nl_l, Option.bind_some, Option.toList_some, Option.toList_none, List.cons_append, List.nil_append, if_true, if_false, Bool.false_eq_true, Int.reduceEq, Int.reduceAdd, ↓reduceIte, e0]
    exact g1
  · rw [h] at g1 ⊢
    have p0 : nI (prF b12 1) = 12 := rfl
    have e1 : nI 1 = 1 := rfl
    rw [p0, e1] at g1
    simp (disch := first | assumption | omega | rfl | exact Nat.le_of_ble_eq_true rfl | decide) only [r116_0, r116_1, r116_4, r116_5, r116_6, r116_7, r116_9, r116_10, r116_13, r116_16, r116_17, r116_20, r116_21, r116_22, r116_23, r116_24, r116_27, r116_28, r116_29, r116_31, r116_34, r116_35, r116_38, r116_39, r116_40, r116_41, r116_44, r116_47, r116_51, r116_52, r116_53, r116_56, r116_57, r116_60, r116_61, r116_62, r116_65, r116_67, r116_70, r116_71, r116_72, r116_75, r116_78, r116_81, r116_84, r116_85, r116_86, r116_90, r116_91, r116_94, r116_96, r116_98, r116_99, r116_101, r116_102, r116_106, r116_107, r116_110, r116_111, r116_114, r116_115, r116_118, r116_120, r116_121, r116_123, r116_125, r116_126, r116_127, r116_129, r116_132, r116_133, r116_135, r116_137, r116_138, r116_139, r116_142, r116_144, r116_145, r116_148, r116_151, r116_152, r116_155, r116_156, r116_158, r116_160, r116_162, r116_163, r116_165, r116_168, r116_171, r116_173, r116_176, r116_177, r116_180, r116_181, r116_184, r116_187, r116_188, r116_191, r116_192, r116_194, r116_195, r116_197, r116_200, r116_201, r116_204, r116_205, r116_206, r116_207, r116_208, r116_212, r116_213, r116_216, r116_219, r116_221, r116_224, r116_225, r116_228, r116_230, r116_231, r116_232, r116_233, r116_236, r116_238, r116_239, r116_240, r116_243, r116_244, r116_247, r116_248, r116_249, r116_252, r116_254, r116_255, r116_256, r116_257, r116_258, r116_261, r116_264, r116_267, r116_270, r116_271, am_gf_42_6, am_gf_42_10, am_gf_42_17, am_gf_42_24, am_gf_42_25, am_ai_48, am_ai_55, am_ai_61, am_ai_62, am_nl_i, am_nl_r, am_nl_n, am_nl_l, Option.bind_some, Option.toList_some, Option.toList_none, List.cons_append, List.nil_append, if_true, if_false, Bool.false_eq_true, Int.reduceEq, Int.reduceAdd, ↓reduceIte, e1, e10]
    exact g1
  · rw [h] at g1 ⊢
    have p0 : nI (prF b12 2) = 144 := rfl
    have e1 : nI 2 = 2 := rfl
    rw [p0, e1] at g1
    simp (disch := first | assumption | omega | rfl | exact Nat.le_of_ble_eq_true rfl | decide) only [r116_0, r116_1, r116_4, r116_5, r116_6, r116_7, r116_9, r116_10, r116_13, r116_16, r116_17, r116_20, r116_21, r116_22, r116_23, r116_24, r116_27, r116_28, r116_29, r116_31, r116_34, r116_35, r116_38, r116_39, r116_40, r116_41, r116_44, r116_47, r116_51, r116_52, r116_53, r116_56, r116_57, r116_60, r116_61, r116_62, r116_65, r116_67, r116_70, r116_71, r116_72, r116_75, r116_78, r116_81, r116_84, r116_85, r116_86, r116_90, r116_91, r116_94, r116_96, r116_98, r116_99, r116_101, r116_102, r116_106, r116_107, r116_110, r116_111, r116_114, r116_115, r116_118, r116_120, r116_121, r116_123, r116_125, r116_126, r116_127, r116_129, r116_132, r116_133, r116_135, r116_137, r116_138, r116_139, r116_142, r116_144, r116_145, r116_148, r116_151, r116_152, r116_155, r116_156, r116_158, r116_160, r116_162, r116_163, r116_165, r116_168, r116_171, r116_173, r116_176, r116_177, r116_180, r116_181, r116_184, r116_187, r116_188, r116_191, r116_192, r116_194, r116_195, r116_197, r116_200, r116_201, r116_204, r116_205, r116_206, r116_207, r116_208, r116_212, r116_213, r116_216, r116_219, r116_221, r116_224, r116_225, r116_228, r116_230, r116_231, r116_232, r116_233, r116_236, r116_238, r116_239, r116_240, r116_243, r116_244, r116_247, r116_248, r116_249, r116_252, r116_254, r116_255, r116_256, r116_257, r116_258, r116_261, r116_264, r116_267, r116_270, r116_271, am_gf_42_6, am_gf_42_10, am_gf_42_17, am_gf_42_24, am_gf_42_25, am_ai_48, am_ai_55, am_ai_61, am_ai_62, am_nl_i, am_nl_r, am_nl_n, am_nl_l, Option.bind_some, Option.toList_some, Option.toList_none, List.cons_append, List.nil_append, if_true, if_false, Bool.false_eq_true, Int.reduceEq, Int.reduceAdd, ↓reduceIte, e1, show ¬ (2 : Int32) = 0 by decide, show ¬ (2 : Int32) = 1 by decide]
    exact g1
  · rw [h] at g1 ⊢
    have p0 : nI (prF b12 3) = 1728 := rfl
    have e1 : nI 3 = 3 := rfl
    rw [p0, e1] at g1
    simp (disch := first | assumption | omega | rfl | exact Nat.le_of_ble_eq_true rfl | decide) only [r116_0, r116_1, r116_4, r116_5, r116_6, r116_7, r116_9, r116_10, r116_13, r116_16, r116_17, r116_20, r116_21, r116_22, r116_23, r116_24, r116_27, r116_28, r116_29, r116_31, r116_34, r116_35, r116_38, r116_39, r116_40, r116_41, r116_44, r116_47, r116_51, r116_52, r116_53, r116_56, r116_57, r116_60, r116_61, r116_62, r116_65, r116_67, r116_70, r116_71, r116_72, r116_75, r116_78, r116_81, r116_84, r116_85, r116_86, r116_90, r116_91, r116_94, r116_96, r116_98, r116_99, r116_101, r116_102, r116_106, r116_107, r116_110, r116_111, r116_114, r116_115, r116_118, r116_120, r116_121, r116_123, r116_125, r116_126, r116_127, r116_129, r116_132, r116_133, r116_135, r116_137, r116_138, r116_139, r116_142, r116_144, r116_145, r116_148, r116_151, r116_152, r116_155, r116_156, r116_158, r116_160, r116_162, r116_163, r116_165, r116_168, r116_171, r116_173, r116_176, r116_177, r116_180, r116_181, r116_184, r116_187, r116_188, r116_191, r116_192, r116_194, r116_195, r116_197, r116_200, r116_201, r116_204, r116_205, r116_206, r116_207, r116_208, r116_212, r116_213, r116_216, r116_219, r116_221, r116_224, r116_225, r116_228, r116_230, r116_231, r116_232, r116_233, r116_236, r116_238, r116_239, r116_240, r116_243, r116_244, r116_247, r116_248, r116_249, r116_252, r116_254, r116_255, r116_256, r116_257, r116_258, r116_261, r116_264, r116_267, r116_270, r116_271, am_gf_42_6, am_gf_42_10, am_gf_42_17, am_gf_42_24, am_gf_42_25, am_ai_48, am_ai_55, am_ai_61, am_ai_62, am_nl_i, am_nl_r, am_nl_n, am_nl_l, Option.bind_some, Option.toList_some, Option.toList_none, List.cons_append, List.nil_append, if_true, if_false, Bool.false_eq_true, Int.reduceEq, Int.reduceAdd, ↓reduceIte, e1, show ¬ (3 : Int32) = 0 by decide, show ¬ (3 : Int32) = 1 by decide, show ¬ (3 : Int32) = 2 by decide]
    exact g1
theorem m_ways {d : Nat} {σ : am_St} {τ : Int64} {T : tS} (hR : RM σ T) (hW : WF T) : ∃ σ' : am_St, am_call (d + 4) 117 [.ref 42] σ τ = some (some (.int (nI (s_ways T))), σ', τ) ∧ KM σ σ' := by
  obtain ⟨σ', g1, g2, -⟩ := m_layWays (d := d) (τ := τ) hR hW
  refine ⟨σ', ?_, KM.of (fun c hc => g2 c (by omega))⟩
  show am_run (d + 4) 117 0 [.ref 42] [] σ τ = _
  simp (disch := first | assumption | omega | rfl | exact Nat.le_of_ble_eq_true rfl | decide) only [r117_0, r117_1, r117_4, am_nl_i, am_nl_r, am_nl_n, am_nl_l, Option.bind_some, Option.toList_some, Option.toList_none, List.cons_append, List.nil_append, if_true, if_false, Bool.false_eq_true, Int.reduceEq, Int.reduceAdd, ↓reduceIte, g1]
theorem m_sure_loop {d n p : Nat} {σ : am_St} {τ : Int64} (hn : σ 42 6 = nI n) (h12 : n ≤ 12) (hp : p < n) : ∀ k i, i + k = n → am_run d 118 2 [.ref 42, .int (nI p), .int (nI i)] [] σ τ = some (some (.int (ff (fun k => decide (σ 61 p = (1 : Int32) <<< (nI k &&& 31))) k i)), σ, τ) := by
  intro k
  induction k with
  | zero =>
    intro i hi
    have e : i = n := by omega
    subst e
    rw [r118_2]
    simp (disch := first | assumption | omega | rfl | exact Nat.le_of_ble_eq_true rfl | decide) only [r118_0, r118_1, r118_3, r118_4, r118_7, r118_10, r118_11, r118_14, r118_15, r118_16, r118_17, r118_18, r118_19, r118_22, r118_23, r118_24, r118_27, r118_30, r118_31, am_gf_42_6, am_gf_42_24, am_ai_61, am_nl_i, am_nl_r, am_nl_n, am_nl_l, Option.bind_some, Option.toList_some, Option.toList_none, List.cons_append, List.nil_append, if_true, if_false, Bool.false_eq_true, Int.reduceEq, Int.reduceAdd, ↓reduceIte, hn, i_rf, ff]
  | succ k ih =>
    intro i hi
    have hc : ¬ n ≤ i := by omega
    have hi12 : i < 12 := by omega
    have hp12 : p < 12 := by omega
    rw [r118_2]
    unfold ff
    by_cases h : σ 61 p = (1 : Int32) <<< (nI i &&& 31)
    · simp (disch := first | assumption | omega | rfl | exact Nat.le_of_ble_eq_true rfl | decide) only [r118_0, r118_1, r118_3, r118_4, r118_7, r118_10, r118_11, r118_14, r118_15, r118_16, r118_17, r118_18, r118_19, r118_22, r118_23, r118_24, r118_27, r118_30, r118_31, am_gf_42_6, am_gf_42_24, am_ai_61, am_nl_i, am_nl_r, am_nl_n, am_nl_l, Option.bind_some, Option.toList_some, Option.toList_none, List.cons_append, List.nil_append, if_true, if_false, Bool.false_eq_true, Int.reduceEq, Int.reduceAdd, ↓reduceIte, hn, ni_le, hc, h, decide_true]
    · simp (disch := first | assumption | omega | rfl | exact Nat.le_of_ble_eq_true rfl | decide) only [r118_0, r118_1, r118_3, r118_4, r118_7, r118_10, r118_11, r118_14, r118_15, r118_16, r118_17, r118_18, r118_19, r118_22, r118_23, r118_24, r118_27, r118_30, r118_31, am_gf_42_6, am_gf_42_24, am_ai_61, am_nl_i, am_nl_r, am_nl_n, am_nl_l, Option.bind_some, Option.toList_some, Option.toList_none, List.cons_append, List.nil_append, if_true, if_false, Bool.false_eq_true, Int.reduceEq, Int.reduceAdd, ↓reduceIte, hn, ni_le, hc, h, decide_false, nI_1, ih (i + 1) (by omega)]
theorem m_sureNow {d p : Nat} {σ : am_St} {τ : Int64} {T : tS} (hW : WF T) (hn : σ 42 6 = nI (s_n T)) (hp : p < s_n T) (hmb : ∀ x, x < 32 → bt (σ 61 p) x = mbB T (prF b12 (cnt (s_gp T) (s_n T))) p x) : am_call d 118 [.ref 42, .int (nI p)] σ τ = some (some (.int (s_sure T p)), σ, τ) := by
  have h12 := hW.1
  show am_run d 118 0 [.ref 42, .int (nI p), .null] [] σ τ = _
  have lp := m_sure_loop (d := d) (τ := τ) hn hW.1 hp (s_n T) 0 (by omega)
  rw [sure_eq hW hp (fun k hk => by
    rw [decide_eq_true_eq]
    constructor
    · intro h x hx
      rw [← hmb x hx, h, bt_one (by omega) hx]
    · intro h
      apply b_ext
      intro x hx
      rw [hmb x hx, h x hx, bt_one (by omega) hx])] at lp
  have e0 : nI 0 = 0 := rfl
  rw [e0] at lp
  simp (disch := first | assumption | omega | rfl | exact Nat.le_of_ble_eq_true rfl | decide) only [r118_0, r118_1, r118_3, r118_4, r118_7, r118_10, r118_11, r118_14, r118_15, r118_16, r118_17, r118_18, r118_19, r118_22, r118_23, r118_24, r118_27, r118_30, r118_31, am_gf_42_6, am_gf_42_24, am_ai_61, am_nl_i, am_nl_r, am_nl_n, am_nl_l, Option.bind_some, Option.toList_some, Option.toList_none, List.cons_append, List.nil_append, if_true, if_false, Bool.false_eq_true, Int.reduceEq, Int.reduceAdd, ↓reduceIte]
  exact lp
theorem m_sure {d : Nat} {σ : am_St} {τ : Int64} {T : tS} {p : Int32} (hR : RM σ T) (hW : WF T) : ∃ σ' : am_St, am_call (d + 4) 119 [.ref 42, .int p] σ τ = some (some (.int (sp_sure T p)), σ', τ) ∧ KM σ σ' := by
  show ∃ σ' : am_St, am_run (d + 4) 119 0 [.ref 42, .int p, .null] [] σ τ = _ ∧ _
  unfold sp_sure
  cases hp : idx (s_n T) p with
  | none =>
    refine ⟨σ, ?_, KM.rf⟩
    simp (disch := first | assumption | omega | rfl | exact Nat.le_of_ble_eq_true rfl | decide) only [r119_0, r119_1, r119_2, r119_5, r119_8, r119_10, r119_11, r119_12, r119_15, r119_16, r119_17, r119_18, r119_21, am_nl_i, am_nl_r, am_nl_n, am_nl_l, Option.bind_some, Option.toList_some, Option.toList_none, List.cons_append, List.nil_append, if_true, if_false, Bool.false_eq_true, Int.reduceEq, Int.reduceAdd, ↓reduceIte, m_isP_n hR.1 hW.1 hp]
  | some j =>
    obtain ⟨hj, rfl⟩ := idx_some hW.1 hp
    obtain ⟨σ', g1, g2, g3⟩ := m_layWays (d := d) (τ := τ) hR hW
    have hs := m_sureNow (d := d + 3) (σ := σ') (τ := τ) hW (by rw [g2 42 (by omega)]; exact hR.1) hj (g3 j hj)
    refine ⟨σ', ?_, KM.of (fun c hc => g2 c (by omega))⟩
    simp (disch := first | assumption | omega | rfl | exact Nat.le_of_ble_eq_true rfl | decide) only [r119_0, r119_1, r119_2, r119_5, r119_8, r119_10, r119_11, r119_12, r119_15, r119_16, r119_17, r119_18, r119_21, am_nl_i, am_nl_r, am_nl_n, am_nl_l, Option.bind_some, Option.toList_some, Option.toList_none, List.cons_append, List.nil_append, if_true, if_false, Bool.false_eq_true, Int.reduceEq, Int.reduceAdd, ↓reduceIte, m_isP_s hR.1 hW.1 hp, e10, g1, hs]
