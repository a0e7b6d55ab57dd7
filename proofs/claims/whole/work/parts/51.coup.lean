/-! the reference: couples -/
theorem wd_m1 {n : Nat} {ad : Nat → Nat → Bool} {sx : Nat → Int32} (h12 : n ≤ 12) (had : ∀ p q, p < n → q < n → ad p q = true → sx p = 0 ∧ ¬ sx q = 0) : ∀ m, m ≤ n → ∀ p, m ≤ p → sx p = 0 → (wdF n ad m).2 p = -1 := by
  intro m
  induction m with
  | zero => intro _ p _ _; rfl
  | succ m ih =>
    intro hm p hp hs
    rw [wdF_s]
    by_cases hw : wfS n ad (wdF n ad m).1 m = -1
    · rw [if_pos hw]
      exact ih (by omega) p (by omega) hs
    · rw [if_neg hw]
      rcases ff_spec (P := wfB n ad (wdF n ad m).1 m) n 0 with ⟨w, -, hwn, hwb, e⟩ | ⟨e, -⟩
      · have ew : wfS n ad (wdF n ad m).1 m = nI w := e
        rw [ew, nI_clamp (by omega)]
        unfold wfB at hwb
        rw [Bool.and_eq_true] at hwb
        have hsw := (had m w (by omega) (by omega) hwb.1).2
        dsimp only
        rw [pk_un (by intro e; subst e; exact hsw hs), pk_un (by omega)]
        exact ih (by omega) p (by omega) hs
      · exact absurd e hw
theorem m_coup_i {d : Nat} {τ : Int64} : ∀ k i (σ : am_St), i + k = 12 → (∀ j, j < i → σ 67 j = -1) → ∃ σ' : am_St, am_run d 131 10 [.ref 42, .int (nI i), .null, .null, .null, .null] [] σ τ = am_run d 131 29 [.ref 42, .int (nI 12), .null, .null, .null, .null] [] σ' τ ∧ (∀ a, a ≠ 67 → σ' a = σ a) ∧ ∀ j, j < 12 → σ' 67 j = -1 := by
  intro k
  induction k with
  | zero =>
    intro i σ hi h
    have e : i = 12 := by omega
    subst e
    refine ⟨σ, ?_, fun _ _ => rfl, h⟩
    rw [r131_10]
    simp (disch := first | assumption | omega | rfl | exact Nat.le_of_ble_eq_true rfl | decide) only [r131_0, r131_1, r131_4, r131_5, r131_8, r131_9, r131_11, r131_13, r131_16, r131_17, r131_20, r131_21, r131_22, r131_23, r131_26, r131_30, r131_31, r131_32, r131_34, r131_35, r131_38, r131_41, r131_42, r131_45, r131_48, r131_49, r131_50, r131_51, r131_52, r131_53, r131_54, r131_55, r131_59, r131_60, r131_63, r131_66, r131_67, r131_70, r131_71, r131_72, r131_73, r131_76, r131_77, r131_80, r131_81, r131_82, r131_85, r131_86, r131_89, r131_90, r131_91, r131_93, r131_94, r131_95, r131_96, r131_97, r131_100, r131_101, r131_103, r131_104, r131_105, r131_106, r131_109, r131_110, r131_113, r131_114, r131_116, r131_118, r131_121, r131_122, r131_123, r131_126, r131_129, r131_130, r131_131, r131_132, r131_133, r131_134, r131_135, r131_137, r131_138, r131_139, r131_140, r131_141, r131_142, r131_143, r131_146, r131_147, r131_150, r131_151, r131_153, r131_154, r131_155, r131_158, r131_160, r131_161, r131_162, r131_165, r131_168, r131_169, r131_170, r131_173, r131_174, r131_175, r131_178, r131_179, r131_182, r131_183, r131_184, r131_185, r131_188, r131_189, r131_190, r131_193, r131_194, r131_195, r131_196, r131_199, r131_200, r131_201, r131_202, r131_205, r131_208, r131_209, r131_212, r131_213, r131_214, am_gf_42_6, am_gf_42_9, am_gf_42_29, am_gf_42_30, am_gf_42_31, am_ai_47, am_ai_66, am_ai_67, am_ai_68, am_nl_i, am_nl_r, am_nl_n, am_nl_l, Option.bind_some, Option.toList_some, Option.toList_none, List.cons_append, List.nil_append, if_true, if_false, Bool.false_eq_true, Int.reduceEq, Int.reduceAdd, ↓reduceIte, show (12 : Int32) = nI 12 from rfl, i_rf]
  | succ k ih =>
    intro i σ hi h
    have hc : ¬ 12 ≤ i := by omega
    have hi12 : i < 12 := by omega
    obtain ⟨σ', g1, g2, g3⟩ := ih (i + 1) (am_up σ 67 i (-1)) (by omega) (fun j hj => by
      rw [am_up_eq]
      by_cases e : j = i
      · subst e; rw [pk_us]
      · rw [pk_un e]; exact h j (by omega))
    refine ⟨σ', ?_, fun a x => by rw [g2 a x, am_up_ne x], g3⟩
    rw [← g1, r131_10]
    simp (disch := first | assumption | omega | rfl | exact Nat.le_of_ble_eq_true rfl | decide) only [r131_0, r131_1, r131_4, r131_5, r131_8, r131_9, r131_11, r131_13, r131_16, r131_17, r131_20, r131_21, r131_22, r131_23, r131_26, r131_30, r131_31, r131_32, r131_34, r131_35, r131_38, r131_41, r131_42, r131_45, r131_48, r131_49, r131_50, r131_51, r131_52, r131_53, r131_54, r131_55, r131_59, r131_60, r131_63, r131_66, r131_67, r131_70, r131_71, r131_72, r131_73, r131_76, r131_77, r131_80, r131_81, r131_82, r131_85, r131_86, r131_89, r131_90, r131_91, r131_93, r131_94, r131_95, r131_96, r131_97, r131_100, r131_101, r131_103, r131_104, r131_105, r131_106, r131_109, r131_110, r131_113, r131_114, r131_116, r131_118, r131_121, r131_122, r131_123, r131_126, r131_129, r131_130, r131_131, r131_132, r131_133, r131_134, r131_135, r131_137, r131_138, r131_139, r131_140, r131_141, r131_142, r131_143, r131_146, r131_147, r131_150, r131_151, r131_153, r131_154, r131_155, r131_158, r131_160, r131_161, r131_162, r131_165, r131_168, r131_169, r131_170, r131_173, r131_174, r131_175, r131_178, r131_179, r131_182, r131_183, r131_184, r131_185, r131_188, r131_189, r131_190, r131_193, r131_194, r131_195, r131_196, r131_199, r131_200, r131_201, r131_202, r131_205, r131_208, r131_209, r131_212, r131_213, r131_214, am_gf_42_6, am_gf_42_9, am_gf_42_29, am_gf_42_30, am_gf_42_31, am_ai_47, am_ai_66, am_ai_67, am_ai_68, am_nl_i, am_nl_r, am_nl_n, am_nl_l, Option.bind_some, Option.toList_some, Option.toList_none, List.cons_append, List.nil_append, if_true, if_false, Bool.false_eq_true, Int.reduceEq, Int.reduceAdd, ↓reduceIte, show (12 : Int32) = nI 12 from rfl, ni_le, hc, nI_1]
theorem m_coup_q {d p u : Nat} {σ : am_St} {τ : Int64} {T : tS} (hW : WF T) (hp : p < s_n T) (hu : u < 2 ^ s_n T) (hn : σ 42 6 = nI (s_n T)) (hs : σ 47 p = 0) (had : ∀ q, q < s_n T → bt (σ 68 p) q = s_ad T p q) (hM : MO (s_n T) (s_ad T) σ 0 (2 ^ s_n T)) (hm : σ 67 p = -1) : ∀ k q (v5 : Value), q + k = s_n T → ∃ (σ' : am_St) (v4' v5' : Value), am_run d 131 57 [.ref 42, .int (nI u), .int (nI p), .int (nI (bsF (s_n T) (s_ad T) (s_n T - p) p (tb u))), .int (nI q), v5] [] σ τ = am_run d 131 168 [.ref 42, .int (nI u), .int (nI p), .int (nI (bsF (s_n T) (s_ad T) (s_n T - p) p (tb u))), v4', v5'] [] σ' τ ∧ (∀ a, a ≠ 67 → σ' a = σ a) ∧ ((ff (wfB (s_n T) (s_ad T) (tb u) p) k q = -1 ∧ σ' 67 = σ 67) ∨ ∃ w, w < s_n T ∧ ff (wfB (s_n T) (s_ad T) (tb u) p) k q = nI w ∧ σ' 67 = upd (upd (σ 67) p (nI w)) w (nI p)) := by
  intro k
  have h12 := hW.1
  have h2 := two_le h12
  have hp12 : p < 12 := by omega
  have hdue : bsF (s_n T) (s_ad T) (s_n T - p) p (tb u) ≤ 12 := by have := bsF_le (n := s_n T) (ad := s_ad T) (s_n T - p) p (tb u); omega
  induction k with
  | zero =>
    intro q v5 hq
    have e : q = s_n T := by omega
    subst e
    refine ⟨σ, .int (nI (s_n T)), v5, ?_, fun _ _ => rfl, Or.inl ⟨rfl, rfl⟩⟩
    rw [r131_57]
    simp (disch := first | assumption | omega | rfl | exact Nat.le_of_ble_eq_true rfl | decide) only [r131_0, r131_1, r131_4, r131_5, r131_8, r131_9, r131_11, r131_13, r131_16, r131_17, r131_20, r131_21, r131_22, r131_23, r131_26, r131_29, r131_30, r131_31, r131_32, r131_34, r131_35, r131_38, r131_41, r131_42, r131_45, r131_48, r131_49, r131_50, r131_51, r131_52, r131_53, r131_54, r131_55, r131_59, r131_60, r131_63, r131_66, r131_67, r131_70, r131_71, r131_72, r131_73, r131_76, r131_77, r131_80, r131_81, r131_82, r131_85, r131_86, r131_89, r131_90, r131_91, r131_93, r131_94, r131_95, r131_96, r131_97, r131_100, r131_101, r131_103, r131_104, r131_105, r131_106, r131_109, r131_110, r131_113, r131_114, r131_116, r131_118, r131_121, r131_122, r131_123, r131_126, r131_129, r131_130, r131_131, r131_132, r131_133, r131_134, r131_135, r131_137, r131_138, r131_139, r131_140, r131_141, r131_142, r131_143, r131_146, r131_147, r131_150, r131_151, r131_153, r131_154, r131_155, r131_158, r131_160, r131_161, r131_162, r131_165, r131_169, r131_170, r131_173, r131_174, r131_175, r131_178, r131_179, r131_182, r131_183, r131_184, r131_185, r131_188, r131_189, r131_190, r131_193, r131_194, r131_195, r131_196, r131_199, r131_200, r131_201, r131_202, r131_205, r131_208, r131_209, r131_212, r131_213, r131_214, am_gf_42_6, am_gf_42_9, am_gf_42_29, am_gf_42_30, am_gf_42_31, am_ai_47, am_ai_66, am_ai_67, am_ai_68, am_nl_i, am_nl_r, am_nl_n, am_nl_l, Option.bind_some, Option.toList_some, Option.toList_none, List.cons_append, List.nil_append, if_true, if_false, Bool.false_eq_true, Int.reduceEq, Int.reduceAdd, ↓reduceIte, hn, i_rf]
  | succ k ih =>
    intro q v5 hq
    have hc : ¬ s_n T ≤ q := by omega
    have hqn : q < s_n T := by omega
    have hq12 : q < 12 := by omega
    have hs1 := sr_1 (x := σ 68 p) (q := q) (by omega)
    have hs2 := sr_1 (x := nI u) (q := q) (by omega)
    rw [had q hqn] at hs1
    rw [n_bt u (by omega)] at hs2
    unfold ff
    -- not this one
    have no : wfB (s_n T) (s_ad T) (tb u) p q = false → (∃ v5' : Value, am_run d 131 57 [.ref 42, .int (nI u), .int (nI p), .int (nI (bsF (s_n T) (s_ad T) (s_n T - p) p (tb u))), .int (nI q), v5] [] σ τ = am_run d 131 57 [.ref 42, .int (nI u), .int (nI p), .int (nI (bsF (s_n T) (s_ad T) (s_n T - p) p (tb u))), .int (nI (q + 1)), v5'] [] σ τ) → ∃ (σ' : am_St) (v4' v5' : Value), am_run d 131 57 [.ref 42, .int (nI u), .int (nI p), .int (nI (bsF (s_n T) (s_ad T) (s_n T - p) p (tb u))), .int (nI q), v5] [] σ τ = am_run d 131 168 [.ref 42, .int (nI u), .int (nI p), .int (nI (bsF (s_n T) (s_ad T) (s_n T - p) p (tb u))), v4', v5'] [] σ' τ ∧ (∀ a, a ≠ 67 → σ' a = σ a) ∧ (((if wfB (s_n T) (s_ad T) (tb u) p q = true then nI q else ff (wfB (s_n T) (s_ad T) (tb u) p) k (q + 1)) = -1 ∧ σ' 67 = σ 67) ∨ ∃ w, w < s_n T ∧ (if wfB (s_n T) (s_ad T) (tb u) p q = true then nI q else ff (wfB (s_n T) (s_ad T) (tb u) p) k (q + 1)) = nI w ∧ σ' 67 = upd (upd (σ 67) p (nI w)) w (nI p)) := by
      rintro hb ⟨v5', h⟩
      obtain ⟨σ', v4', v5'', g1, g2⟩ := ih (q + 1) v5' (by omega)
      rw [hb, if_neg (by decide)]
      exact ⟨σ', v4', v5'', by rw [h, g1], g2⟩
    cases ha : s_ad T p q with
    | false =>
      rw [ha, if_neg (by decide)] at hs1
      have e01 : ¬ (0 : Int32) = 1 := by decide
      apply no (by unfold wfB; rw [ha, Bool.false_and])
      refine ⟨.int 0, ?_⟩
      rw [r131_57]
      simp (disch := first | assumption | omega | rfl | exact Nat.le_of_ble_eq_true rfl | decide) only [r131_0, r131_1, r131_4, r131_5, r131_8, r131_9, r131_11, r131_13, r131_16, r131_17, r131_20, r131_21, r131_22, r131_23, r131_26, r131_29, r131_30, r131_31, r131_32, r131_34, r131_35, r131_38, r131_41, r131_42, r131_45, r131_48, r131_49, r131_50, r131_51, r131_52, r131_53, r131_54, r131_55, r131_59, r131_60, r131_63, r131_66, r131_67, r131_70, r131_71, r131_72, r131_73, r131_76, r131_77, r131_80, r131_81, r131_82, r131_85, r131_86, r131_89, r131_90, r131_91, r131_93, r131_94, r131_95, r131_96, r131_97, r131_100, r131_101, r131_103, r131_104, r131_105, r131_106, r131_109, r131_110, r131_113, r131_114, r131_116, r131_118, r131_121, r131_122, r131_123, r131_126, r131_129, r131_130, r131_131, r131_132, r131_133, r131_134, r131_135, r131_137, r131_138, r131_139, r131_140, r131_141, r131_142, r131_143, r131_146, r131_147, r131_150, r131_151, r131_153, r131_154, r131_155, r131_158, r131_160, r131_161, r131_162, r131_165, r131_169, r131_170, r131_173, r131_174, r131_175, r131_178, r131_179, r131_182, r131_183, r131_184, r131_185, r131_188, r131_189, r131_190, r131_193, r131_194, r131_195, r131_196, r131_199, r131_200, r131_201, r131_202, r131_205, r131_208, r131_209, r131_212, r131_213, r131_214, am_gf_42_6, am_gf_42_9, am_gf_42_29, am_gf_42_30, am_gf_42_31, am_ai_47, am_ai_66, am_ai_67, am_ai_68, am_nl_i, am_nl_r, am_nl_n, am_nl_l, Option.bind_some, Option.toList_some, Option.toList_none, List.cons_append, List.nil_append, if_true, if_false, Bool.false_eq_true, Int.reduceEq, Int.reduceAdd, ↓reduceIte, hn, ni_le, hc, hm, hs, hs1, e01, nI_1]
    | true =>
      rw [ha, if_pos rfl] at hs1
      cases hu2 : u.testBit q with
      | true =>
        rw [hu2, if_pos rfl] at hs2
        apply no (by unfold wfB tb; rw [ha, hu2]; rfl)
        refine ⟨.int 0, ?_⟩
        rw [r131_57]
        simp (disch := first | assumption | omega | rfl | exact Nat.le_of_ble_eq_true rfl | decide) only [r131_0, r131_1, r131_4, r131_5, r131_8, r131_9, r131_11, r131_13, r131_16, r131_17, r131_20, r131_21, r131_22, r131_23, r131_26, r131_29, r131_30, r131_31, r131_32, r131_34, r131_35, r131_38, r131_41, r131_42, r131_45, r131_48, r131_49, r131_50, r131_51, r131_52, r131_53, r131_54, r131_55, r131_59, r131_60, r131_63, r131_66, r131_67, r131_70, r131_71, r131_72, r131_73, r131_76, r131_77, r131_80, r131_81, r131_82, r131_85, r131_86, r131_89, r131_90, r131_91, r131_93, r131_94, r131_95, r131_96, r131_97, r131_100, r131_101, r131_103, r131_104, r131_105, r131_106, r131_109, r131_110, r131_113, r131_114, r131_116, r131_118, r131_121, r131_122, r131_123, r131_126, r131_129, r131_130, r131_131, r131_132, r131_133, r131_134, r131_135, r131_137, r131_138, r131_139, r131_140, r131_141, r131_142, r131_143, r131_146, r131_147, r131_150, r131_151, r131_153, r131_154, r131_155, r131_158, r131_160, r131_161, r131_162, r131_165, r131_169, r131_170, r131_173, r131_174, r131_175, r131_178, r131_179, r131_182, r131_183, r131_184, r131_185, r131_188, r131_189, r131_190, r131_193, r131_194, r131_195, r131_196, r131_199, r131_200, r131_201, r131_202, r131_205, r131_208, r131_209, r131_212, r131_213, r131_214, am_gf_42_6, am_gf_42_9, am_gf_42_29, am_gf_42_30, am_gf_42_31, am_ai_47, am_ai_66, am_ai_67, am_ai_68, am_nl_i, am_nl_r, am_nl_n, am_nl_l, Option.bind_some, Option.toList_some, Option.toList_none, List.cons_append, List.nil_append, if_true, if_false, Bool.false_eq_true, Int.reduceEq, Int.reduceAdd, ↓reduceIte, hn, ni_le, hc, hm, hs, hs1, hs2, e10, nI_1]
      | false =>
        rw [hu2, if_neg (by decide)] at hs2
        have hor := or_lt hu hqn
        have hix : 4096 * (p + 1) + (u ||| 2 ^ q) < 53248 := by omega
        have hval := hM (p + 1) (u ||| 2 ^ q) (by omega) hor (by omega)
        rw [tb_or] at hval
        have hsh := sh_pw13 q (by omega)
        have hble : bsF (s_n T) (s_ad T) (s_n T - (p + 1)) (p + 1) (upB (tb u) q) ≤ 12 := by have := bsF_le (n := s_n T) (ad := s_ad T) (s_n T - (p + 1)) (p + 1) (upB (tb u) q); omega
        have e1 : (1 : Int32) + nI (bsF (s_n T) (s_ad T) (s_n T - (p + 1)) (p + 1) (upB (tb u) q)) = nI (1 + bsF (s_n T) (s_ad T) (s_n T - (p + 1)) (p + 1) (upB (tb u) q)) := nI_add 1 _
        by_cases he : 1 + bsF (s_n T) (s_ad T) (s_n T - (p + 1)) (p + 1) (upB (tb u) q) = bsF (s_n T) (s_ad T) (s_n T - p) p (tb u)
        · have hb : wfB (s_n T) (s_ad T) (tb u) p q = true := by
            unfold wfB
            rw [ha, decide_eq_true he]
            unfold tb
            rw [hu2]
            rfl
          have he2 : nI (1 + bsF (s_n T) (s_ad T) (s_n T - (p + 1)) (p + 1) (upB (tb u) q)) = nI (bsF (s_n T) (s_ad T) (s_n T - p) p (tb u)) := by rw [he]
          -- the mate is set, and the loop ends
          have hpq : ¬ upd (upd (σ 67) p (nI q)) q (nI p) p = -1 := by
            unfold upd
            split
            · exact am_nm1 (by omega)
            · rw [if_pos rfl]; exact am_nm1 (by omega)
          have go : ∃ v4' : Value, am_run d 131 57 [.ref 42, .int (nI u), .int (nI p), .int (nI (bsF (s_n T) (s_ad T) (s_n T - p) p (tb u))), .int (nI (q + 1)), .int 1] [] (am_up (am_up σ 67 p (nI q)) 67 q (nI p)) τ = am_run d 131 168 [.ref 42, .int (nI u), .int (nI p), .int (nI (bsF (s_n T) (s_ad T) (s_n T - p) p (tb u))), v4', .int 1] [] (am_up (am_up σ 67 p (nI q)) 67 q (nI p)) τ := by
            refine ⟨.int (nI (q + 1)), ?_⟩
            rw [r131_57]
            by_cases hz : s_n T ≤ q + 1
            · simp (disch := first | assumption | omega | rfl | exact Nat.le_of_ble_eq_true rfl | decide) only [r131_0, r131_1, r131_4, r131_5, r131_8, r131_9, r131_11, r131_13, r131_16, r131_17, r131_20, r131_21, r131_22, r131_23, r131_26, r131_29, r131_30, r131_31, r131_32, r131_34, r131_35, r131_38, r131_41, r131_42, r131_45, r131_48, r131_49, r131_50, r131_51, r131_52, r131_53, r131_54, r131_55, r131_59, r131_60, r131_63, r131_66, r131_67, r131_70, r131_71, r131_72, r131_73, r131_76, r131_77, r131_80, r131_81, r131_82, r131_85, r131_86, r131_89, r131_90, r131_91, r131_93, r131_94, r131_95, r131_96, r131_97, r131_100, r131_101, r131_103, r131_104, r131_105, r131_106, r131_109, r131_110, r131_113, r131_114, r131_116, r131_118, r131_121, r131_122, r131_123, r131_126, r131_129, r131_130, r131_131, r131_132, r131_133, r131_134, r131_135, r131_137, r131_138, r131_139, r131_140, r131_141, r131_142, r131_143, r131_146, r131_147, r131_150, r131_151, r131_153, r131_154, r131_155, r131_158, r131_160, r131_161, r131_162, r131_165, r131_169, r131_170, r131_173, r131_174, r131_175, r131_178, r131_179, r131_182, r131_183, r131_184, r131_185, r131_188, r131_189, r131_190, r131_193, r131_194, r131_195, r131_196, r131_199, r131_200, r131_201, r131_202, r131_205, r131_208, r131_209, r131_212, r131_213, r131_214, am_gf_42_6, am_gf_42_9, am_gf_42_29, am_gf_42_30, am_gf_42_31, am_ai_47, am_ai_66, am_ai_67, am_ai_68, am_nl_i, am_nl_r, am_nl_n, am_nl_l, Option.bind_some, Option.toList_some, Option.toList_none, List.cons_append, List.nil_append, if_true, if_false, Bool.false_eq_true, Int.reduceEq, Int.reduceAdd, ↓reduceIte, hn, am_up_ne, ni_le, hz]
            · simp (disch := first | assumption | omega | rfl | exact Nat.le_of_ble_eq_true rfl | decide) only [r131_0, r131_1, r131_4, r131_5, r131_8, r131_9, r131_11, r131_13, r131_16, r131_17, r131_20, r131_21, r131_22, r131_23, r131_26, r131_29, r131_30, r131_31, r131_32, r131_34, r131_35, r131_38, r131_41, r131_42, r131_45, r131_48, r131_49, r131_50, r131_51, r131_52, r131_53, r131_54, r131_55, r131_59, r131_60, r131_63, r131_66, r131_67, r131_70, r131_71, r131_72, r131_73, r131_76, r131_77, r131_80, r131_81, r131_82, r131_85, r131_86, r131_89, r131_90, r131_91, r131_93, r131_94, r131_95, r131_96, r131_97, r131_100, r131_101, r131_103, r131_104, r131_105, r131_106, r131_109, r131_110, r131_113, r131_114, r131_116, r131_118, r131_121, r131_122, r131_123, r131_126, r131_129, r131_130, r131_131, r131_132, r131_133, r131_134, r131_135, r131_137, r131_138, r131_139, r131_140, r131_141, r131_142, r131_143, r131_146, r131_147, r131_150, r131_151, r131_153, r131_154, r131_155, r131_158, r131_160, r131_161, r131_162, r131_165, r131_169, r131_170, r131_173, r131_174, r131_175, r131_178, r131_179, r131_182, r131_183, r131_184, r131_185, r131_188, r131_189, r131_190, r131_193, r131_194, r131_195, r131_196, r131_199, r131_200, r131_201, r131_202, r131_205, r131_208, r131_209, r131_212, r131_213, r131_214, am_gf_42_6, am_gf_42_9, am_gf_42_29, am_gf_42_30, am_gf_42_31, am_ai_47, am_ai_66, am_ai_67, am_ai_68, am_nl_i, am_nl_r, am_nl_n, am_nl_l, Option.bind_some, Option.toList_some, Option.toList_none, List.cons_append, List.nil_append, if_true, if_false, Bool.false_eq_true, Int.reduceEq, Int.reduceAdd, ↓reduceIte, hn, am_up_ne, am_up_eq, ni_le, hz, hpq]
          obtain ⟨v4', go⟩ := go
          refine ⟨am_up (am_up σ 67 p (nI q)) 67 q (nI p), v4', .int 1, ?_, fun a x => by rw [am_up_ne x, am_up_ne x], Or.inr ⟨q, hqn, if_pos hb, by rw [am_up_eq, am_up_eq]⟩⟩
          rw [← go, r131_57]
          simp (disch := first | assumption | omega | rfl | exact Nat.le_of_ble_eq_true rfl | decide) only [r131_0, r131_1, r131_4, r131_5, r131_8, r131_9, r131_11, r131_13, r131_16, r131_17, r131_20, r131_21, r131_22, r131_23, r131_26, r131_29, r131_30, r131_31, r131_32, r131_34, r131_35, r131_38, r131_41, r131_42, r131_45, r131_48, r131_49, r131_50, r131_51, r131_52, r131_53, r131_54, r131_55, r131_59, r131_60, r131_63, r131_66, r131_67, r131_70, r131_71, r131_72, r131_73, r131_76, r131_77, r131_80, r131_81, r131_82, r131_85, r131_86, r131_89, r131_90, r131_91, r131_93, r131_94, r131_95, r131_96, r131_97, r131_100, r131_101, r131_103, r131_104, r131_105, r131_106, r131_109, r131_110, r131_113, r131_114, r131_116, r131_118, r131_121, r131_122, r131_123, r131_126, r131_129, r131_130, r131_131, r131_132, r131_133, r131_134, r131_135, r131_137, r131_138, r131_139, r131_140, r131_141, r131_142, r131_143, r131_146, r131_147, r131_150, r131_151, r131_153, r131_154, r131_155, r131_158, r131_160, r131_161, r131_162, r131_165, r131_169, r131_170, r131_173, r131_174, r131_175, r131_178, r131_179, r131_182, r131_183, r131_184, r131_185, r131_188, r131_189, r131_190, r131_193, r131_194, r131_195, r131_196, r131_199, r131_200, r131_201, r131_202, r131_205, r131_208, r131_209, r131_212, r131_213, r131_214, am_gf_42_6, am_gf_42_9, am_gf_42_29, am_gf_42_30, am_gf_42_31, am_ai_47, am_ai_66, am_ai_67, am_ai_68, am_nl_i, am_nl_r, am_nl_n, am_nl_l, Option.bind_some, Option.toList_some, Option.toList_none, List.cons_append, List.nil_append, if_true, if_false, Bool.false_eq_true, Int.reduceEq, Int.reduceAdd, ↓reduceIte, hn, ni_le, hc, hm, hs, hs1, hs2, e10, show (4096 : Int32) = nI 4096 from rfl, nI_1, pk_mul, hsh, ni_or, nI_add, hval, e1, he2]
        · have hb : wfB (s_n T) (s_ad T) (tb u) p q = false := by
            unfold wfB
            rw [ha, decide_eq_false he, Bool.and_false, Bool.and_false]
          have he2 : ¬ nI (1 + bsF (s_n T) (s_ad T) (s_n T - (p + 1)) (p + 1) (upB (tb u) q)) = nI (bsF (s_n T) (s_ad T) (s_n T - p) p (tb u)) := by rw [ni_eq (by omega) (by omega)]; exact he
          apply no hb
          refine ⟨.int 1, ?_⟩
          rw [r131_57]
          simp (disch := first | assumption | omega | rfl | exact Nat.le_of_ble_eq_true rfl | decide) only [r131_0, r131_1, r131_4, r131_5, r131_8, r131_9, r131_11, r131_13, r131_16, r131_17, r131_20, r131_21, r131_22, r131_23, r131_26, r131_29, r131_30, r131_31, r131_32, r131_34, r131_35, r131_38, r131_41, r131_42, r131_45, r131_48, r131_49, r131_50, r131_51, r131_52, r131_53, r131_54, r131_55, r131_59, r131_60, r131_63, r131_66, r131_67, r131_70, r131_71, r131_72, r131_73, r131_76, r131_77, r131_80, r131_81, r131_82, r131_85, r131_86, r131_89, r131_90, r131_91, r131_93, r131_94, r131_95, r131_96, r131_97, r131_100, r131_101, r131_103, r131_104, r131_105, r131_106, r131_109, r131_110, r131_113, r131_114, r131_116, r131_118, r131_121, r131_122, r131_123, r131_126, r131_129, r131_130, r131_131, r131_132, r131_133, r131_134, r131_135, r131_137, r131_138, r131_139, r131_140, r131_141, r131_142, r131_143, r131_146, r131_147, r131_150, r131_151, r131_153, r131_154, r131_155, r131_158, r131_160, r131_161, r131_162, r131_165, r131_169, r131_170, r131_173, r131_174, r131_175, r131_178, r131_179, r131_182, r131_183, r131_184, r131_185, r131_188, r131_189, r131_190, r131_193, r131_194, r131_195, r131_196, r131_199, r131_200, r131_201, r131_202, r131_205, r131_208, r131_209, r131_212, r131_213, r131_214, am_gf_42_6, am_gf_42_9, am_gf_42_29, am_gf_42_30, am_gf_42_31, am_ai_47, am_ai_66, am_ai_67, am_ai_68, am_nl_i, am_nl_r, am_nl_n, am_nl_l, Option.bind_some, Option.toList_some, Option.toList_none, List.cons_append, List.nil_append, if_true, if_false, Bool.false_eq_true, Int.reduceEq, Int.reduceAdd, ↓reduceIte, hn, ni_le, hc, hm, hs, hs1, hs2, e10, show (4096 : Int32) = nI 4096 from rfl, nI_1, pk_mul, hsh, ni_or, nI_add, hval, e1, he2]
theorem ad_sx {T : tS} {p q : Nat} (h : s_ad T p q = true) : s_sx T p = 0 ∧ ¬ s_sx T q = 0 := by
  unfold s_ad s_my mayB at h
  simp only [Bool.and_eq_true, decide_eq_true_eq, Bool.not_eq_true', decide_eq_false_iff_not] at h
  obtain ⟨-, h1, h2, -⟩ := h
  exact ⟨h1, fun e => h2 (by rw [h1, e])⟩
theorem m_coup_p {d : Nat} {τ : Int64} {T : tS} (hW : WF T) : ∀ k p u (v3 v4 v5 : Value) (σ : am_St), p + k = s_n T → u < 2 ^ s_n T → am_nl v3 = v3 → σ 42 6 = nI (s_n T) → (∀ j, j < s_n T → σ 47 j = s_sx T j) → (∀ r, r < s_n T → ∀ q, q < s_n T → bt (σ 68 r) q = s_ad T r q) → MO (s_n T) (s_ad T) σ 0 (2 ^ s_n T) → (wdF (s_n T) (s_ad T) p).1 = tb u → (∀ j, j < 12 → σ 67 j = (wdF (s_n T) (s_ad T) p).2 j) → ∃ σ' : am_St, am_run d 131 33 [.ref 42, .int (nI u), .int (nI p), v3, v4, v5] [] σ τ = some (some (.int (nI (s_mo T))), σ', τ) ∧ (∀ a, a ≠ 67 → σ' a = σ a) ∧ ∀ j, j < 12 → σ' 67 j = s_mt T j := by
  intro k
  have h12 := hW.1
  have h2 := two_le h12
  induction k with
  | zero =>
    intro p u v3 v4 v5 σ hp hu hv hn hsx had hM hU hmt
    have e : p = s_n T := by omega
    subst e
    refine ⟨σ, ?_, fun _ _ => rfl, hmt⟩
    have h0 := hM 0 0 (Nat.zero_le _) (Nat.two_pow_pos _) (by have := Nat.two_pow_pos (s_n T); omega)
    rw [tb_0, Nat.sub_zero] at h0
    have h0 : σ 66 0 = nI (s_mo T) := h0
    have a0 : am_ai false 66 0 = am_ai false 66 (nI 0) := rfl
    rw [r131_33]
    simp (disch := first | assumption | omega | rfl | exact Nat.le_of_ble_eq_true rfl | decide) only [r131_0, r131_1, r131_4, r131_5, r131_8, r131_9, r131_11, r131_13, r131_16, r131_17, r131_20, r131_21, r131_22, r131_23, r131_26, r131_29, r131_30, r131_31, r131_32, r131_34, r131_35, r131_38, r131_41, r131_42, r131_45, r131_48, r131_49, r131_50, r131_51, r131_52, r131_53, r131_54, r131_55, r131_59, r131_60, r131_63, r131_66, r131_67, r131_70, r131_71, r131_72, r131_73, r131_76, r131_77, r131_80, r131_81, r131_82, r131_85, r131_86, r131_89, r131_90, r131_91, r131_93, r131_94, r131_95, r131_96, r131_97, r131_100, r131_101, r131_103, r131_104, r131_105, r131_106, r131_109, r131_110, r131_113, r131_114, r131_116, r131_118, r131_121, r131_122, r131_123, r131_126, r131_129, r131_130, r131_131, r131_132, r131_133, r131_134, r131_135, r131_137, r131_138, r131_139, r131_140, r131_141, r131_142, r131_143, r131_146, r131_147, r131_150, r131_151, r131_153, r131_154, r131_155, r131_158, r131_160, r131_161, r131_162, r131_165, r131_168, r131_169, r131_170, r131_173, r131_174, r131_175, r131_178, r131_179, r131_182, r131_183, r131_184, r131_185, r131_188, r131_189, r131_190, r131_193, r131_194, r131_195, r131_196, r131_199, r131_200, r131_201, r131_202, r131_205, r131_208, r131_209, r131_212, r131_213, r131_214, am_gf_42_6, am_gf_42_9, am_gf_42_29, am_gf_42_30, am_gf_42_31, am_ai_47, am_ai_66, am_ai_67, am_ai_68, am_nl_i, am_nl_r, am_nl_n, am_nl_l, Option.bind_some, Option.toList_some, Option.toList_none, List.cons_append, List.nil_append, if_true, if_false, Bool.false_eq_true, Int.reduceEq, Int.reduceAdd, ↓reduceIte, hn, i_rf, a0, h0]
  | succ k ih =>
    intro p u v3 v4 v5 σ hp hu hv hn hsx had hM hU hmt
    have hc : ¬ s_n T ≤ p := by omega
    have hpn : p < s_n T := by omega
    have hp12 : p < 12 := by omega
    have hix : 4096 * p + u < 53248 := by omega
    have hval := hM p u (by omega) hu (by omega)
    have es := hsx p hpn
    have ea : ∀ x : Int32, x ||| 0 = x := i_or0
    have hws := wdF_s (s_n T) (s_ad T) p
    by_cases hs : s_sx T p = 0
    · have hs47 : σ 47 p = 0 := by rw [es]; exact hs
      have hm1 : σ 67 p = -1 := by rw [hmt p hp12]; exact wd_m1 h12 (fun r q _ _ h => ad_sx h) p (by omega) p (Nat.le_refl p) hs
      obtain ⟨σ1, w4, w5, a1, a2, a3⟩ := m_coup_q (d := d) (u := u) (τ := τ) hW hpn hu hn hs47 (had p hpn) hM hm1 (s_n T) 0 v5 (by omega)
      have go : am_run d 131 33 [.ref 42, .int (nI u), .int (nI p), v3, v4, v5] [] σ τ = am_run d 131 168 [.ref 42, .int (nI u), .int (nI p), .int (nI (bsF (s_n T) (s_ad T) (s_n T - p) p (tb u))), w4, w5] [] σ1 τ := by
        have e0 : nI 0 = 0 := rfl
        rw [e0] at a1
        rw [← a1, r131_33]
        simp (disch := first | assumption | omega | rfl | exact Nat.le_of_ble_eq_true rfl | decide) only [r131_0, r131_1, r131_4, r131_5, r131_8, r131_9, r131_11, r131_13, r131_16, r131_17, r131_20, r131_21, r131_22, r131_23, r131_26, r131_29, r131_30, r131_31, r131_32, r131_34, r131_35, r131_38, r131_41, r131_42, r131_45, r131_48, r131_49, r131_50, r131_51, r131_52, r131_53, r131_54, r131_55, r131_59, r131_60, r131_63, r131_66, r131_67, r131_70, r131_71, r131_72, r131_73, r131_76, r131_77, r131_80, r131_81, r131_82, r131_85, r131_86, r131_89, r131_90, r131_91, r131_93, r131_94, r131_95, r131_96, r131_97, r131_100, r131_101, r131_103, r131_104, r131_105, r131_106, r131_109, r131_110, r131_113, r131_114, r131_116, r131_118, r131_121, r131_122, r131_123, r131_126, r131_129, r131_130, r131_131, r131_132, r131_133, r131_134, r131_135, r131_137, r131_138, r131_139, r131_140, r131_141, r131_142, r131_143, r131_146, r131_147, r131_150, r131_151, r131_153, r131_154, r131_155, r131_158, r131_160, r131_161, r131_162, r131_165, r131_168, r131_169, r131_170, r131_173, r131_174, r131_175, r131_178, r131_179, r131_182, r131_183, r131_184, r131_185, r131_188, r131_189, r131_190, r131_193, r131_194, r131_195, r131_196, r131_199, r131_200, r131_201, r131_202, r131_205, r131_208, r131_209, r131_212, r131_213, r131_214, am_gf_42_6, am_gf_42_9, am_gf_42_29, am_gf_42_30, am_gf_42_31, am_ai_47, am_ai_66, am_ai_67, am_ai_68, am_nl_i, am_nl_r, am_nl_n, am_nl_l, Option.bind_some, Option.toList_some, Option.toList_none, List.cons_append, List.nil_append, if_true, if_false, Bool.false_eq_true, Int.reduceEq, Int.reduceAdd, ↓reduceIte, hn, ni_le, hc, show (4096 : Int32) = nI 4096 from rfl, pk_mul, nI_add, hval]
      have hs1 : σ1 47 p = 0 := by rw [a2 47 (by decide)]; exact hs47
      rw [go, r131_168]
      rcases a3 with ⟨e, e67⟩ | ⟨w, hw, e, e67⟩
      · have hwf : wfS (s_n T) (s_ad T) (wdF (s_n T) (s_ad T) p).1 p = -1 := by rw [hU]; exact e
        rw [if_pos hwf] at hws
        obtain ⟨σ', g1, g2, g3⟩ := ih (p + 1) u (.int (nI (bsF (s_n T) (s_ad T) (s_n T - p) p (tb u)))) w4 w5 σ1 (by omega) hu rfl (by rw [a2 42 (by decide)]; exact hn) (fun j hj => by rw [a2 47 (by decide)]; exact hsx j hj) (fun r hr q hq => by rw [a2 68 (by decide)]; exact had r hr q hq) (fun r w hr hw h => by rw [a2 66 (by decide)]; exact hM r w hr hw h) (by rw [hws]; exact hU) (fun j hj => by rw [hws, e67]; exact hmt j hj)
        refine ⟨σ', ?_, fun a x => by rw [g2 a x, a2 a x], g3⟩
        have h67 : σ1 67 p = -1 := by rw [e67]; exact hm1
        rw [← g1]
        simp (disch := first | assumption | omega | rfl | exact Nat.le_of_ble_eq_true rfl | decide) only [r131_0, r131_1, r131_4, r131_5, r131_8, r131_9, r131_11, r131_13, r131_16, r131_17, r131_20, r131_21, r131_22, r131_23, r131_26, r131_29, r131_30, r131_31, r131_32, r131_34, r131_35, r131_38, r131_41, r131_42, r131_45, r131_48, r131_49, r131_50, r131_51, r131_52, r131_53, r131_54, r131_55, r131_59, r131_60, r131_63, r131_66, r131_67, r131_70, r131_71, r131_72, r131_73, r131_76, r131_77, r131_80, r131_81, r131_82, r131_85, r131_86, r131_89, r131_90, r131_91, r131_93, r131_94, r131_95, r131_96, r131_97, r131_100, r131_101, r131_103, r131_104, r131_105, r131_106, r131_109, r131_110, r131_113, r131_114, r131_116, r131_118, r131_121, r131_122, r131_123, r131_126, r131_129, r131_130, r131_131, r131_132, r131_133, r131_134, r131_135, r131_137, r131_138, r131_139, r131_140, r131_141, r131_142, r131_143, r131_146, r131_147, r131_150, r131_151, r131_153, r131_154, r131_155, r131_158, r131_160, r131_161, r131_162, r131_165, r131_169, r131_170, r131_173, r131_174, r131_175, r131_178, r131_179, r131_182, r131_183, r131_184, r131_185, r131_188, r131_189, r131_190, r131_193, r131_194, r131_195, r131_196, r131_199, r131_200, r131_201, r131_202, r131_205, r131_208, r131_209, r131_212, r131_213, r131_214, am_gf_42_6, am_gf_42_9, am_gf_42_29, am_gf_42_30, am_gf_42_31, am_ai_47, am_ai_66, am_ai_67, am_ai_68, am_nl_i, am_nl_r, am_nl_n, am_nl_l, Option.bind_some, Option.toList_some, Option.toList_none, List.cons_append, List.nil_append, if_true, if_false, Bool.false_eq_true, Int.reduceEq, Int.reduceAdd, ↓reduceIte, hs1, h67, ea, nI_1]
      · have hne : ¬ nI w = -1 := am_nm1 (by omega)
        have hwf : wfS (s_n T) (s_ad T) (wdF (s_n T) (s_ad T) p).1 p = nI w := by rw [hU]; exact e
        rw [hwf, if_neg hne, nI_clamp (by omega)] at hws
        obtain ⟨σ', g1, g2, g3⟩ := ih (p + 1) (u ||| 2 ^ w) (.int (nI (bsF (s_n T) (s_ad T) (s_n T - p) p (tb u)))) w4 w5 σ1 (by omega) (or_lt hu hw) rfl (by rw [a2 42 (by decide)]; exact hn) (fun j hj => by rw [a2 47 (by decide)]; exact hsx j hj) (fun r hr q hq => by rw [a2 68 (by decide)]; exact had r hr q hq) (fun r w hr hw h => by rw [a2 66 (by decide)]; exact hM r w hr hw h) (by rw [hws, tb_or, hU]) (fun j hj => by
          rw [hws, e67]
          unfold upd
          dsimp only
          split
          · rfl
          · split
            · rfl
            · exact hmt j hj)
        refine ⟨σ', ?_, fun a x => by rw [g2 a x, a2 a x], g3⟩
        have hwp : w ≠ p := by
          intro e2
          subst e2
          rcases ff_spec (P := wfB (s_n T) (s_ad T) (tb u) w) (s_n T) 0 with ⟨i, -, hi, hb, e3⟩ | ⟨e3, -⟩
          · rw [e] at e3
            have := (ni_eq (a := w) (b := i) (by omega) (by omega)).mp e3
            subst this
            unfold wfB at hb
            rw [Bool.and_eq_true] at hb
            exact (ad_sx hb.1).2 hs
          · rw [e] at e3; exact hne e3
        have h67 : σ1 67 p = nI w := by rw [e67, pk_un hwp.symm, pk_us]
        have hsh := sh_pw13 w (by omega)
        rw [← g1]
        simp (disch := first | assumption | omega | rfl | exact Nat.le_of_ble_eq_true rfl | decide) only [r131_0, r131_1, r131_4, r131_5, r131_8, r131_9, r131_11, r131_13, r131_16, r131_17, r131_20, r131_21, r131_22, r131_23, r131_26, r131_29, r131_30, r131_31, r131_32, r131_34, r131_35, r131_38, r131_41, r131_42, r131_45, r131_48, r131_49, r131_50, r131_51, r131_52, r131_53, r131_54, r131_55, r131_59, r131_60, r131_63, r131_66, r131_67, r131_70, r131_71, r131_72, r131_73, r131_76, r131_77, r131_80, r131_81, r131_82, r131_85, r131_86, r131_89, r131_90, r131_91, r131_93, r131_94, r131_95, r131_96, r131_97, r131_100, r131_101, r131_103, r131_104, r131_105, r131_106, r131_109, r131_110, r131_113, r131_114, r131_116, r131_118, r131_121, r131_122, r131_123, r131_126, r131_129, r131_130, r131_131, r131_132, r131_133, r131_134, r131_135, r131_137, r131_138, r131_139, r131_140, r131_141, r131_142, r131_143, r131_146, r131_147, r131_150, r131_151, r131_153, r131_154, r131_155, r131_158, r131_160, r131_161, r131_162, r131_165, r131_169, r131_170, r131_173, r131_174, r131_175, r131_178, r131_179, r131_182, r131_183, r131_184, r131_185, r131_188, r131_189, r131_190, r131_193, r131_194, r131_195, r131_196, r131_199, r131_200, r131_201, r131_202, r131_205, r131_208, r131_209, r131_212, r131_213, r131_214, am_gf_42_6, am_gf_42_9, am_gf_42_29, am_gf_42_30, am_gf_42_31, am_ai_47, am_ai_66, am_ai_67, am_ai_68, am_nl_i, am_nl_r, am_nl_n, am_nl_l, Option.bind_some, Option.toList_some, Option.toList_none, List.cons_append, List.nil_append, if_true, if_false, Bool.false_eq_true, Int.reduceEq, Int.reduceAdd, ↓reduceIte, hs1, h67, hne, hsh, ni_or, nI_1]
    · have hs47 : ¬ σ 47 p = 0 := by rw [es]; exact hs
      have hwf : wfS (s_n T) (s_ad T) (wdF (s_n T) (s_ad T) p).1 p = -1 := by
        rcases ff_spec (P := wfB (s_n T) (s_ad T) (wdF (s_n T) (s_ad T) p).1 p) (s_n T) 0 with ⟨i, -, hi, hb, e3⟩ | ⟨e3, -⟩
        · unfold wfB at hb
          rw [Bool.and_eq_true] at hb
          exact absurd (ad_sx hb.1).1 hs
        · exact e3
      rw [if_pos hwf] at hws
      have hz : ¬ nI (s_n T) ≤ 0 := nI_nle (by omega) (by omega)
      obtain ⟨σ', g1, g2, g3⟩ := ih (p + 1) u (.int (nI (bsF (s_n T) (s_ad T) (s_n T - p) p (tb u)))) (.int 0) v5 σ (by omega) hu rfl hn hsx had hM (by rw [hws]; exact hU) (fun j hj => by rw [hws]; exact hmt j hj)
      refine ⟨σ', ?_, g2, g3⟩
      rw [← g1, r131_33]
      simp (disch := first | assumption | omega | rfl | exact Nat.le_of_ble_eq_true rfl | decide) only [r131_0, r131_1, r131_4, r131_5, r131_8, r131_9, r131_11, r131_13, r131_16, r131_17, r131_20, r131_21, r131_22, r131_23, r131_26, r131_29, r131_30, r131_31, r131_32, r131_34, r131_35, r131_38, r131_41, r131_42, r131_45, r131_48, r131_49, r131_50, r131_51, r131_52, r131_53, r131_54, r131_55, r131_59, r131_60, r131_63, r131_66, r131_67, r131_70, r131_71, r131_72, r131_73, r131_76, r131_77, r131_80, r131_81, r131_82, r131_85, r131_86, r131_89, r131_90, r131_91, r131_93, r131_94, r131_95, r131_96, r131_97, r131_100, r131_101, r131_103, r131_104, r131_105, r131_106, r131_109, r131_110, r131_113, r131_114, r131_116, r131_118, r131_121, r131_122, r131_123, r131_126, r131_129, r131_130, r131_131, r131_132, r131_133, r131_134, r131_135, r131_137, r131_138, r131_139, r131_140, r131_141, r131_142, r131_143, r131_146, r131_147, r131_150, r131_151, r131_153, r131_154, r131_155, r131_158, r131_160, r131_161, r131_162, r131_165, r131_168, r131_169, r131_170, r131_173, r131_174, r131_175, r131_178, r131_179, r131_182, r131_183, r131_184, r131_185, r131_188, r131_189, r131_190, r131_193, r131_194, r131_195, r131_196, r131_199, r131_200, r131_201, r131_202, r131_205, r131_208, r131_209, r131_212, r131_213, r131_214, am_gf_42_6, am_gf_42_9, am_gf_42_29, am_gf_42_30, am_gf_42_31, am_ai_47, am_ai_66, am_ai_67, am_ai_68, am_nl_i, am_nl_r, am_nl_n, am_nl_l, Option.bind_some, Option.toList_some, Option.toList_none, List.cons_append, List.nil_append, if_true, if_false, Bool.false_eq_true, Int.reduceEq, Int.reduceAdd, ↓reduceIte, hn, ni_le, hc, show (4096 : Int32) = nI 4096 from rfl, pk_mul, nI_add, hval]
      rw [r131_57]
      by_cases hm : σ 67 p = -1
      · simp (disch := first | assumption | omega | rfl | exact Nat.le_of_ble_eq_true rfl | decide) only [r131_0, r131_1, r131_4, r131_5, r131_8, r131_9, r131_11, r131_13, r131_16, r131_17, r131_20, r131_21, r131_22, r131_23, r131_26, r131_29, r131_30, r131_31, r131_32, r131_34, r131_35, r131_38, r131_41, r131_42, r131_45, r131_48, r131_49, r131_50, r131_51, r131_52, r131_53, r131_54, r131_55, r131_59, r131_60, r131_63, r131_66, r131_67, r131_70, r131_71, r131_72, r131_73, r131_76, r131_77, r131_80, r131_81, r131_82, r131_85, r131_86, r131_89, r131_90, r131_91, r131_93, r131_94, r131_95, r131_96, r131_97, r131_100, r131_101, r131_103, r131_104, r131_105, r131_106, r131_109, r131_110, r131_113, r131_114, r131_116, r131_118, r131_121, r131_122, r131_123, r131_126, r131_129, r131_130, r131_131, r131_132, r131_133, r131_134, r131_135, r131_137, r131_138, r131_139, r131_140, r131_141, r131_142, r131_143, r131_146, r131_147, r131_150, r131_151, r131_153, r131_154, r131_155, r131_158, r131_160, r131_161, r131_162, r131_165, r131_168, r131_169, r131_170, r131_173, r131_174, r131_175, r131_178, r131_179, r131_182, r131_183, r131_184, r131_185, r131_188, r131_189, r131_190, r131_193, r131_194, r131_195, r131_196, r131_199, r131_200, r131_201, r131_202, r131_205, r131_208, r131_209, r131_212, r131_213, r131_214, am_gf_42_6, am_gf_42_9, am_gf_42_29, am_gf_42_30, am_gf_42_31, am_ai_47, am_ai_66, am_ai_67, am_ai_68, am_nl_i, am_nl_r, am_nl_n, am_nl_l, Option.bind_some, Option.toList_some, Option.toList_none, List.cons_append, List.nil_append, if_true, if_false, Bool.false_eq_true, Int.reduceEq, Int.reduceAdd, ↓reduceIte, hn, hz, hm, hs47, ea, nI_1]
      · simp (disch := first | assumption | omega | rfl | exact Nat.le_of_ble_eq_true rfl | decide) only [r131_0, r131_1, r131_4, r131_5, r131_8, r131_9, r131_11, r131_13, r131_16, r131_17, r131_20, r131_21, r131_22, r131_23, r131_26, r131_29, r131_30, r131_31, r131_32, r131_34, r131_35, r131_38, r131_41, r131_42, r131_45, r131_48, r131_49, r131_50, r131_51, r131_52, r131_53, r131_54, r131_55, r131_59, r131_60, r131_63, r131_66, r131_67, r131_70, r131_71, r131_72, r131_73, r131_76, r131_77, r131_80, r131_81, r131_82, r131_85, r131_86, r131_89, r131_90, r131_91, r131_93, r131_94, r131_95, r131_96, r131_97, r131_100, r131_101, r131_103, r131_104, r131_105, r131_106, r131_109, r131_110, r131_113, r131_114, r131_116, r131_118, r131_121, r131_122, r131_123, r131_126, r131_129, r131_130, r131_131, r131_132, r131_133, r131_134, r131_135, r131_137, r131_138, r131_139, r131_140, r131_141, r131_142, r131_143, r131_146, r131_147, r131_150, r131_151, r131_153, r131_154, r131_155, r131_158, r131_160, r131_161, r131_162, r131_165, r131_168, r131_169, r131_170, r131_173, r131_174, r131_175, r131_178, r131_179, r131_182, r131_183, r131_184, r131_185, r131_188, r131_189, r131_190, r131_193, r131_194, r131_195, r131_196, r131_199, r131_200, r131_201, r131_202, r131_205, r131_208, r131_209, r131_212, r131_213, r131_214, am_gf_42_6, am_gf_42_9, am_gf_42_29, am_gf_42_30, am_gf_42_31, am_ai_47, am_ai_66, am_ai_67, am_ai_68, am_nl_i, am_nl_r, am_nl_n, am_nl_l, Option.bind_some, Option.toList_some, Option.toList_none, List.cons_append, List.nil_append, if_true, if_false, Bool.false_eq_true, Int.reduceEq, Int.reduceAdd, ↓reduceIte, hn, hz, hm, hs47, ea, nI_1]
theorem m_layCouples {d : Nat} {σ : am_St} {τ : Int64} {T : tS} (hR : RM σ T) (hW : WF T) : ∃ σ' : am_St, am_call (d + 4) 131 [.ref 42] σ τ = some (some (.int (nI (s_mo T))), σ', τ) ∧ (∀ a, (a < 54 ∨ (57 < a ∧ a < 64) ∨ 68 < a) → σ' a = σ a) ∧ ∀ j, j < 12 → σ' 67 j = s_mt T j := by
  have h12 := hW.1
  obtain ⟨σ1, a1, a2, a3⟩ := m_rk (d := d) (τ := τ) hR hW
  have hR1 : RM σ1 T := hR.keep (KM.of (fun c hc => a2 c (by omega)))
  obtain ⟨σ2, b1, b2, b3, b4⟩ := m_layMost (d := d) (τ := τ) hR1 hW a3
  obtain ⟨σ3, c1, c2, c3⟩ := m_coup_i (d := d + 4) (τ := τ) 12 0 σ2 rfl (fun j hj => absurd hj (Nat.not_lt_zero j))
  have k3 : ∀ a, (a < 54 ∨ (57 < a ∧ a < 64) ∨ 68 < a) → σ3 a = σ a := fun a h => by rw [c2 a (by omega), b2 a (by omega) (by omega) (by omega) (by omega), a2 a (by omega)]
  obtain ⟨σ', g1, g2, g3⟩ := m_coup_p (d := d + 4) (τ := τ) hW (s_n T) 0 0 .null .null .null σ3 (by omega) (Nat.two_pow_pos _) rfl (by rw [k3 42 (by omega)]; exact hR.1) (fun j hj => by rw [k3 47 (by omega)]; exact (hR.2.1 j hj).2.1) (fun r hr q hq => by rw [c2 68 (by decide)]; exact b3 r hr q hq) (fun r w hr hw h => by rw [c2 66 (by decide)]; exact b4 r w hr hw h) tb_0.symm (fun j hj => c3 j hj)
  refine ⟨σ', ?_, fun a h => by rw [g2 a (by omega), k3 a h], g3⟩
  show am_run (d + 4) 131 0 [.ref 42, .null, .null, .null, .null, .null] [] σ τ = _
  have e0 : nI 0 = 0 := rfl
  rw [e0] at c1 g1
  simp (disch := first | assumption | omega | rfl | exact Nat.le_of_ble_eq_true rfl | decide) only [r131_0, r131_1, r131_4, r131_5, r131_8, r131_9, r131_11, r131_13, r131_16, r131_17, r131_20, r131_21, r131_22, r131_23, r131_26, r131_29, r131_30, r131_31, r131_32, r131_34, r131_35, r131_38, r131_41, r131_42, r131_45, r131_48, r131_49, r131_50, r131_51, r131_52, r131_53, r131_54, r131_55, r131_59, r131_60, r131_63, r131_66, r131_67, r131_70, r131_71, r131_72, r131_73, r131_76, r131_77, r131_80, r131_81, r131_82, r131_85, r131_86, r131_89, r131_90, r131_91, r131_93, r131_94, r131_95, r131_96, r131_97, r131_100, r131_101, r131_103, r131_104, r131_105, r131_106, r131_109, r131_110, r131_113, r131_114, r131_116, r131_118, r131_121, r131_122, r131_123, r131_126, r131_129, r131_130, r131_131, r131_132, r131_133, r131_134, r131_135, r131_137, r131_138, r131_139, r131_140, r131_141, r131_142, r131_143, r131_146, r131_147, r131_150, r131_151, r131_153, r131_154, r131_155, r131_158, r131_160, r131_161, r131_162, r131_165, r131_168, r131_169, r131_170, r131_173, r131_174, r131_175, r131_178, r131_179, r131_182, r131_183, r131_184, r131_185, r131_188, r131_189, r131_190, r131_193, r131_194, r131_195, r131_196, r131_199, r131_200, r131_201, r131_202, r131_205, r131_208, r131_209, r131_212, r131_213, r131_214, am_gf_42_6, am_gf_42_9, am_gf_42_29, am_gf_42_30, am_gf_42_31, am_ai_47, am_ai_66, am_ai_67, am_ai_68, am_nl_i, am_nl_r, am_nl_n, am_nl_l, Option.bind_some, Option.toList_some, Option.toList_none, List.cons_append, List.nil_append, if_true, if_false, Bool.false_eq_true, Int.reduceEq, Int.reduceAdd, ↓reduceIte, a1, b1]
  rw [c1, r131_29]
  simp (disch := first | assumption | omega | rfl | exact Nat.le_of_ble_eq_true rfl | decide) only [r131_0, r131_1, r131_4, r131_5, r131_8, r131_9, r131_11, r131_13, r131_16, r131_17, r131_20, r131_21, r131_22, r131_23, r131_26, r131_30, r131_31, r131_32, r131_34, r131_35, r131_38, r131_41, r131_42, r131_45, r131_48, r131_49, r131_50, r131_51, r131_52, r131_53, r131_54, r131_55, r131_59, r131_60, r131_63, r131_66, r131_67, r131_70, r131_71, r131_72, r131_73, r131_76, r131_77, r131_80, r131_81, r131_82, r131_85, r131_86, r131_89, r131_90, r131_91, r131_93, r131_94, r131_95, r131_96, r131_97, r131_100, r131_101, r131_103, r131_104, r131_105, r131_106, r131_109, r131_110, r131_113, r131_114, r131_116, r131_118, r131_121, r131_122, r131_123, r131_126, r131_129, r131_130, r131_131, r131_132, r131_133, r131_134, r131_135, r131_137, r131_138, r131_139, r131_140, r131_141, r131_142, r131_143, r131_146, r131_147, r131_150, r131_151, r131_153, r131_154, r131_155, r131_158, r131_160, r131_161, r131_162, r131_165, r131_168, r131_169, r131_170, r131_173, r131_174, r131_175, r131_178, r131_179, r131_182, r131_183, r131_184, r131_185, r131_188, r131_189, r131_190, r131_193, r131_194, r131_195, r131_196, r131_199, r131_200, r131_201, r131_202, r131_205, r131_208, r131_209, r131_212, r131_213, r131_214, am_gf_42_6, am_gf_42_9, am_gf_42_29, am_gf_42_30, am_gf_42_31, am_ai_47, am_ai_66, am_ai_67, am_ai_68, am_nl_i, am_nl_r, am_nl_n, am_nl_l, Option.bind_some, Option.toList_some, Option.toList_none, List.cons_append, List.nil_append, if_true, if_false, Bool.false_eq_true, Int.reduceEq, Int.reduceAdd, ↓reduceIte]
  exact g1
theorem m_couples {d : Nat} {σ : am_St} {τ : Int64} {T : tS} {x : Int32} (hR : RM σ T) (hW : WF T) : ∃ σ' : am_St, am_call (d + 5) 132 [.ref 42, .int x] σ τ = some (some (.int (sp_couples T x)), σ', τ) ∧ KM σ σ' := by
  obtain ⟨σ', g1, g2, g3⟩ := m_layCouples (d := d) (τ := τ) hR hW
  have hk : KM σ σ' := KM.of (fun c hc => g2 c (by omega))
  show ∃ σ' : am_St, am_run (d + 5) 132 0 [.ref 42, .int x, .null] [] σ τ = _ ∧ _
  unfold sp_couples
  by_cases h0 : x = 0
  · subst h0
    refine ⟨σ', ?_, hk⟩
    simp (disch := first | assumption | omega | rfl | exact Nat.le_of_ble_eq_true rfl | decide) only [r132_0, r132_1, r132_4, r132_5, r132_6, r132_9, r132_12, r132_15, r132_18, r132_20, r132_21, r132_22, r132_25, r132_26, r132_27, r132_30, r132_31, r132_34, r132_35, r132_38, r132_39, r132_41, r132_42, r132_43, am_gf_42_30, am_ai_67, am_nl_i, am_nl_r, am_nl_n, am_nl_l, Option.bind_some, Option.toList_some, Option.toList_none, List.cons_append, List.nil_append, if_true, if_false, Bool.false_eq_true, Int.reduceEq, Int.reduceAdd, ↓reduceIte, g1]
  · rw [if_neg h0]
    by_cases hx : 10 ≤ x ∧ x < 22
    · rw [if_pos hx]
      obtain ⟨k, hk2, hk1⟩ : ∃ k : Nat, k < 12 ∧ x = nI (k + 10) := by
        obtain ⟨j, hj, rfl⟩ := nI_of (x := x) (fun q => by
          have h1 := Int32.le_iff_toInt_le.mp hx.1
          have h2 := Int32.lt_iff_toInt_lt.mp q
          have e1 : (10 : Int32).toInt = 10 := by decide
          have e2 : (0 : Int32).toInt = 0 := by decide
          rw [e1] at h1; rw [e2] at h2; omega)
        have h1 : 10 ≤ j := (nI_leI (a := 10) (by omega) (by omega)).mp hx.1
        have h2 : j < 22 := (nI_ltI (b := 22) (by omega) (by omega)).mp hx.2
        exact ⟨j - 10, by omega, by rw [show j - 10 + 10 = j by omega]⟩
      subst hk1
      have es : nI (k + 10) - 10 = nI k := by
        show nI (k + 10) - nI 10 = nI k
        rw [pk_sub (by omega)]; rfl
      have hi : inS (nI (k + 10)) 10 21 = 1 := by
        unfold inS
        rw [if_neg (Int32.not_lt.mpr hx.1), if_neg]
        show ¬ nI 21 < nI (k + 10)
        rw [ni_lt (by omega) (by omega)]; omega
      refine ⟨σ', ?_, hk⟩
      simp (disch := first | assumption | omega | rfl | exact Nat.le_of_ble_eq_true rfl | decide) only [r132_0, r132_1, r132_4, r132_5, r132_6, r132_9, r132_12, r132_15, r132_18, r132_20, r132_21, r132_22, r132_25, r132_26, r132_27, r132_30, r132_31, r132_34, r132_35, r132_38, r132_39, r132_41, r132_42, r132_43, am_gf_42_30, am_ai_67, am_nl_i, am_nl_r, am_nl_n, am_nl_l, Option.bind_some, Option.toList_some, Option.toList_none, List.cons_append, List.nil_append, if_true, if_false, Bool.false_eq_true, Int.reduceEq, Int.reduceAdd, ↓reduceIte, h0, c_in1021, hi, e10, g1, es, g3 k hk2, nI_clamp]
    · rw [if_neg hx]
      have hi : inS x 10 21 = 0 := by
        unfold inS
        by_cases h1 : x < 10
        · rw [if_pos h1]
        · rw [if_neg h1, if_pos]
          have h2 : 22 ≤ x := Int32.not_lt.mp (fun q => hx ⟨Int32.not_lt.mp h1, q⟩)
          exact Int32.lt_of_lt_of_le (by decide) h2
      refine ⟨σ, ?_, KM.rf⟩
      simp (disch := first | assumption | omega | rfl | exact Nat.le_of_ble_eq_true rfl | decide) only [r132_0, r132_1, r132_4, r132_5, r132_6, r132_9, r132_12, r132_15, r132_18, r132_20, r132_21, r132_22, r132_25, r132_26, r132_27, r132_30, r132_31, r132_34, r132_35, r132_38, r132_39, r132_41, r132_42, r132_43, am_gf_42_30, am_ai_67, am_nl_i, am_nl_r, am_nl_n, am_nl_l, Option.bind_some, Option.toList_some, Option.toList_none, List.cons_append, List.nil_append, if_true, if_false, Bool.false_eq_true, Int.reduceEq, Int.reduceAdd, ↓reduceIte, h0, c_in1021, hi]
