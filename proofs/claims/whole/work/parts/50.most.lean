/-! the reference: the most couples, by all sets of women -/
theorem sr_1 {x : Int32} {q : Nat} (hq : q < 32) : (x >>> (nI q &&& 31)) &&& 1 = if bt x q = true then 1 else 0 := by
  apply b_ext
  intro i hi
  rw [b_and, b_sshr q hq x hi, bt_1 i hi]
  by_cases h : i = 0
  · subst h
    rw [if_pos (by omega), Nat.add_zero]
    cases bt x q <;> decide
  · rw [decide_eq_false h, Bool.and_false]
    split
    · rw [bt_1 i hi, decide_eq_false h]
    · rw [b_0]
theorem sh_pw13 : ∀ g, g < 13 → (1 : Int32) <<< (nI g &&& 31) = nI (2 ^ g) := by decide +kernel
theorem two_le {n : Nat} (h : n ≤ 12) : 2 ^ n ≤ 4096 := Nat.pow_le_pow_right (by omega) h
def tb (u : Nat) : Nat → Bool := fun q => u.testBit q
theorem tb_or (u q : Nat) : tb (u ||| 2 ^ q) = upB (tb u) q := by
  funext w
  unfold tb upB
  rw [Nat.testBit_or, Nat.testBit_two_pow]
  by_cases h : w = q
  · subst h; simp
  · rw [if_neg h, decide_eq_false (fun e => h e.symm), Bool.or_false]
theorem tb_0 : tb 0 = fun _ => false := by
  funext w
  exact Nat.zero_testBit w
theorem or_lt {u q n : Nat} (hu : u < 2 ^ n) (hq : q < n) : u ||| 2 ^ q < 2 ^ n := Nat.or_lt_two_pow hu (Nat.pow_lt_pow_right (by omega) hq)
/-- what the table says: all rows behind p, and of p's row the first u -/
def MO (n : Nat) (ad : Nat → Nat → Bool) (σ : am_St) (p u : Nat) : Prop := ∀ r w, r ≤ n → w < 2 ^ n → (p < r ∨ (r = p ∧ w < u)) → σ 66 (4096 * r + w) = nI (bsF n ad (n - r) r (tb w))
theorem m_most_w {d p : Nat} {τ : Int64} {T : tS} (hW : WF T) (hp : p < s_n T) (hs : s_sx T p = 0) : ∀ k q (σ : am_St), q + k = s_n T → RM σ T → (∀ j, j < s_n T → σ 54 j = s_nm T j) → (∀ x, x < 32 → bt (σ 68 p) x = (decide (x < q) && s_ad T p x)) → ∃ σ' : am_St, am_run (d + 3) 130 19 [.ref 42, .int (nI p), .int (nI q), .null, .null, .null] [] σ τ = am_run (d + 3) 130 67 [.ref 42, .int (nI p), .int (nI (s_n T)), .null, .null, .null] [] σ' τ ∧ (∀ a, a ≠ 64 → a ≠ 65 → a ≠ 68 → σ' a = σ a) ∧ (∀ j, j ≠ p → σ' 68 j = σ 68 j) ∧ ∀ x, x < 32 → bt (σ' 68 p) x = s_ad T p x := by
  intro k
  have h12 := hW.1
  induction k with
  | zero =>
    intro q σ hq hR hnm hB
    have e : q = s_n T := by omega
    subst e
    refine ⟨σ, ?_, fun _ _ _ _ => rfl, fun _ _ => rfl, fun x hx => ?_⟩
    · rw [r130_19]
      simp (disch := first | assumption | omega | rfl | exact Nat.le_of_ble_eq_true rfl | decide) only [r130_0, r130_1, r130_3, r130_4, r130_7, r130_10, r130_11, r130_14, r130_15, r130_16, r130_17, r130_18, r130_20, r130_21, r130_24, r130_27, r130_28, r130_31, r130_32, r130_33, r130_36, r130_37, r130_40, r130_41, r130_42, r130_43, r130_44, r130_45, r130_46, r130_49, r130_52, r130_53, r130_54, r130_55, r130_58, r130_59, r130_60, r130_61, r130_64, r130_70, r130_73, r130_74, r130_76, r130_77, r130_78, r130_81, r130_82, r130_85, r130_86, r130_89, r130_92, r130_93, r130_96, r130_97, r130_98, r130_99, r130_100, r130_101, r130_104, r130_107, r130_108, r130_111, r130_112, r130_113, r130_115, r130_118, r130_119, r130_121, r130_122, r130_123, r130_126, r130_127, r130_130, r130_131, r130_134, r130_137, r130_138, r130_139, r130_140, r130_141, r130_142, r130_143, r130_144, r130_145, r130_146, r130_150, r130_151, r130_154, r130_157, r130_158, r130_161, r130_162, r130_163, r130_166, r130_167, r130_170, r130_171, r130_172, r130_174, r130_175, r130_176, r130_177, r130_178, r130_181, r130_182, r130_184, r130_185, r130_186, r130_187, r130_190, r130_191, r130_192, r130_195, r130_198, r130_199, r130_200, r130_201, r130_202, r130_203, r130_204, r130_206, r130_207, r130_208, r130_209, r130_210, r130_211, r130_213, r130_215, r130_216, r130_219, r130_221, r130_224, r130_225, r130_226, r130_229, r130_232, r130_233, r130_236, r130_239, r130_240, r130_241, r130_242, r130_243, r130_244, r130_245, r130_248, r130_251, r130_254, r130_257, am_gf_42_6, am_gf_42_9, am_gf_42_29, am_gf_42_31, am_ai_47, am_ai_66, am_ai_68, am_nl_i, am_nl_r, am_nl_n, am_nl_l, Option.bind_some, Option.toList_some, Option.toList_none, List.cons_append, List.nil_append, if_true, if_false, Bool.false_eq_true, Int.reduceEq, Int.reduceAdd, ↓reduceIte, hR.1, i_rf]
    · rw [hB x hx]
      by_cases h : x < s_n T
      · rw [decide_eq_true h, Bool.true_and]
      · rw [decide_eq_false h, Bool.false_and]
        unfold s_ad
        rw [decide_eq_false h, Bool.false_and]
  | succ k ih =>
    intro q σ hq hR hnm hB
    have hc : ¬ s_n T ≤ q := by omega
    have hq12 : q < 12 := by omega
    have hp12 : p < 12 := by omega
    have hn := hR.1
    have q47 : σ 47 p = 0 := by rw [(hR.2.1 p hp).2.1]; exact hs
    obtain ⟨σ1, a1, a2⟩ := m_mayWed (d := d) (τ := τ) hR hW hnm hp (show q < s_n T by omega)
    have ead : s_ad T p q = s_my T p q := by
      unfold s_ad
      rw [decide_eq_true (show q < s_n T by omega), decide_eq_true hs, Bool.true_and, Bool.true_and]
    have h68 : σ1 68 = σ 68 := a2 68 (by decide) (by decide)
    have hR1 : RM σ1 T := hR.keep (KM.of (fun c hc => a2 c (by omega) (by omega)))
    have step : ∀ y : Int32, (∀ x, x < 32 → bt y x = (bt (σ 68 p) x || (decide (x = q) && s_my T p q))) → ∃ σ' : am_St, am_run (d + 3) 130 19 [.ref 42, .int (nI p), .int (nI (q + 1)), .null, .null, .null] [] (am_up σ1 68 p y) τ = am_run (d + 3) 130 67 [.ref 42, .int (nI p), .int (nI (s_n T)), .null, .null, .null] [] σ' τ ∧ (∀ a, a ≠ 64 → a ≠ 65 → a ≠ 68 → σ' a = σ a) ∧ (∀ j, j ≠ p → σ' 68 j = σ 68 j) ∧ ∀ x, x < 32 → bt (σ' 68 p) x = s_ad T p x := by
      intro y hy
      obtain ⟨σ', g1, g2, g3, g4⟩ := ih (q + 1) (am_up σ1 68 p y) (by omega) (hR1.keep (KM.of (fun c hc => am_up_ne (by omega)))) (fun j hj => by rw [am_up_ne (by decide), a2 54 (by decide) (by decide)]; exact hnm j hj) (fun x hx => by
        rw [am_up_eq, pk_us, hy x hx, hB x hx]
        by_cases e : x = q
        · subst e
          rw [decide_eq_false (Nat.lt_irrefl x), decide_eq_true (Nat.lt_succ_self x), decide_eq_true (show x = x from rfl), Bool.false_and, Bool.false_or, Bool.true_and, Bool.true_and, ead]
        · rw [decide_eq_false e, Bool.false_and, Bool.or_false]
          by_cases h : x < q
          · rw [decide_eq_true h, decide_eq_true (show x < q + 1 by omega)]
          · rw [decide_eq_false h, decide_eq_false (show ¬ x < q + 1 by omega)])
      exact ⟨σ', g1, fun a x y z => by rw [g2 a x y z, am_up_ne z, a2 a x y], fun j hj => by rw [g3 j hj, am_up_eq, pk_un hj, h68], g4⟩
    cases hm : s_my T p q with
    | true =>
      rw [hm] at a1
      obtain ⟨σ', g1, g2⟩ := step (σ 68 p ||| ((1 : Int32) <<< (nI q &&& 31))) (fun x hx => by rw [bt_or1 (by omega) hx, hm, Bool.and_true])
      refine ⟨σ', ?_, g2⟩
      rw [← g1, r130_19]
      simp (disch := first | assumption | omega | rfl | exact Nat.le_of_ble_eq_true rfl | decide) only [r130_0, r130_1, r130_3, r130_4, r130_7, r130_10, r130_11, r130_14, r130_15, r130_16, r130_17, r130_18, r130_20, r130_21, r130_24, r130_27, r130_28, r130_31, r130_32, r130_33, r130_36, r130_37, r130_40, r130_41, r130_42, r130_43, r130_44, r130_45, r130_46, r130_49, r130_52, r130_53, r130_54, r130_55, r130_58, r130_59, r130_60, r130_61, r130_64, r130_70, r130_73, r130_74, r130_76, r130_77, r130_78, r130_81, r130_82, r130_85, r130_86, r130_89, r130_92, r130_93, r130_96, r130_97, r130_98, r130_99, r130_100, r130_101, r130_104, r130_107, r130_108, r130_111, r130_112, r130_113, r130_115, r130_118, r130_119, r130_121, r130_122, r130_123, r130_126, r130_127, r130_130, r130_131, r130_134, r130_137, r130_138, r130_139, r130_140, r130_141, r130_142, r130_143, r130_144, r130_145, r130_146, r130_150, r130_151, r130_154, r130_157, r130_158, r130_161, r130_162, r130_163, r130_166, r130_167, r130_170, r130_171, r130_172, r130_174, r130_175, r130_176, r130_177, r130_178, r130_181, r130_182, r130_184, r130_185, r130_186, r130_187, r130_190, r130_191, r130_192, r130_195, r130_198, r130_199, r130_200, r130_201, r130_202, r130_203, r130_204, r130_206, r130_207, r130_208, r130_209, r130_210, r130_211, r130_213, r130_215, r130_216, r130_219, r130_221, r130_224, r130_225, r130_226, r130_229, r130_232, r130_233, r130_236, r130_239, r130_240, r130_241, r130_242, r130_243, r130_244, r130_245, r130_248, r130_251, r130_254, r130_257, am_gf_42_6, am_gf_42_9, am_gf_42_29, am_gf_42_31, am_ai_47, am_ai_66, am_ai_68, am_nl_i, am_nl_r, am_nl_n, am_nl_l, Option.bind_some, Option.toList_some, Option.toList_none, List.cons_append, List.nil_append, if_true, if_false, Bool.false_eq_true, Int.reduceEq, Int.reduceAdd, ↓reduceIte, hn, ni_le, hc, q47, a1, e10, nI_1]
    | false =>
      rw [hm] at a1
      obtain ⟨σ', g1, g2⟩ := step (σ 68 p ||| 0) (fun x hx => by rw [i_or0, hm, Bool.and_false, Bool.or_false])
      refine ⟨σ', ?_, g2⟩
      rw [← g1, r130_19]
      simp (disch := first | assumption | omega | rfl | exact Nat.le_of_ble_eq_true rfl | decide) only [r130_0, r130_1, r130_3, r130_4, r130_7, r130_10, r130_11, r130_14, r130_15, r130_16, r130_17, r130_18, r130_20, r130_21, r130_24, r130_27, r130_28, r130_31, r130_32, r130_33, r130_36, r130_37, r130_40, r130_41, r130_42, r130_43, r130_44, r130_45, r130_46, r130_49, r130_52, r130_53, r130_54, r130_55, r130_58, r130_59, r130_60, r130_61, r130_64, r130_70, r130_73, r130_74, r130_76, r130_77, r130_78, r130_81, r130_82, r130_85, r130_86, r130_89, r130_92, r130_93, r130_96, r130_97, r130_98, r130_99, r130_100, r130_101, r130_104, r130_107, r130_108, r130_111, r130_112, r130_113, r130_115, r130_118, r130_119, r130_121, r130_122, r130_123, r130_126, r130_127, r130_130, r130_131, r130_134, r130_137, r130_138, r130_139, r130_140, r130_141, r130_142, r130_143, r130_144, r130_145, r130_146, r130_150, r130_151, r130_154, r130_157, r130_158, r130_161, r130_162, r130_163, r130_166, r130_167, r130_170, r130_171, r130_172, r130_174, r130_175, r130_176, r130_177, r130_178, r130_181, r130_182, r130_184, r130_185, r130_186, r130_187, r130_190, r130_191, r130_192, r130_195, r130_198, r130_199, r130_200, r130_201, r130_202, r130_203, r130_204, r130_206, r130_207, r130_208, r130_209, r130_210, r130_211, r130_213, r130_215, r130_216, r130_219, r130_221, r130_224, r130_225, r130_226, r130_229, r130_232, r130_233, r130_236, r130_239, r130_240, r130_241, r130_242, r130_243, r130_244, r130_245, r130_248, r130_251, r130_254, r130_257, am_gf_42_6, am_gf_42_9, am_gf_42_29, am_gf_42_31, am_ai_47, am_ai_66, am_ai_68, am_nl_i, am_nl_r, am_nl_n, am_nl_l, Option.bind_some, Option.toList_some, Option.toList_none, List.cons_append, List.nil_append, if_true, if_false, Bool.false_eq_true, Int.reduceEq, Int.reduceAdd, ↓reduceIte, hn, ni_le, hc, q47, a1, nI_1]
theorem m_most_1 {d : Nat} {τ : Int64} {T : tS} (hW : WF T) : ∀ k p (v2 : Value) (σ : am_St), p + k = s_n T → am_nl v2 = v2 → RM σ T → (∀ j, j < s_n T → σ 54 j = s_nm T j) → (∀ r, r < p → ∀ x, x < 32 → bt (σ 68 r) x = s_ad T r x) → ∃ (σ' : am_St) (v2' : Value), am_run (d + 3) 130 2 [.ref 42, .int (nI p), v2, .null, .null, .null] [] σ τ = am_run (d + 3) 130 73 [.ref 42, .int (nI (s_n T)), v2', .null, .null, .null] [] σ' τ ∧ am_nl v2' = v2' ∧ (∀ a, a ≠ 64 → a ≠ 65 → a ≠ 68 → σ' a = σ a) ∧ ∀ r, r < s_n T → ∀ x, x < 32 → bt (σ' 68 r) x = s_ad T r x := by
  intro k
  have h12 := hW.1
  induction k with
  | zero =>
    intro p v2 σ hp hv hR hnm hB
    have e : p = s_n T := by omega
    subst e
    refine ⟨σ, v2, ?_, hv, fun _ _ _ _ => rfl, hB⟩
    rw [r130_2]
    simp (disch := first | assumption | omega | rfl | exact Nat.le_of_ble_eq_true rfl | decide) only [r130_0, r130_1, r130_3, r130_4, r130_7, r130_10, r130_11, r130_14, r130_15, r130_16, r130_17, r130_18, r130_20, r130_21, r130_24, r130_27, r130_28, r130_31, r130_32, r130_33, r130_36, r130_37, r130_40, r130_41, r130_42, r130_43, r130_44, r130_45, r130_46, r130_49, r130_52, r130_53, r130_54, r130_55, r130_58, r130_59, r130_60, r130_61, r130_64, r130_67, r130_70, r130_74, r130_76, r130_77, r130_78, r130_81, r130_82, r130_85, r130_86, r130_89, r130_92, r130_93, r130_96, r130_97, r130_98, r130_99, r130_100, r130_101, r130_104, r130_107, r130_108, r130_111, r130_112, r130_113, r130_115, r130_118, r130_119, r130_121, r130_122, r130_123, r130_126, r130_127, r130_130, r130_131, r130_134, r130_137, r130_138, r130_139, r130_140, r130_141, r130_142, r130_143, r130_144, r130_145, r130_146, r130_150, r130_151, r130_154, r130_157, r130_158, r130_161, r130_162, r130_163, r130_166, r130_167, r130_170, r130_171, r130_172, r130_174, r130_175, r130_176, r130_177, r130_178, r130_181, r130_182, r130_184, r130_185, r130_186, r130_187, r130_190, r130_191, r130_192, r130_195, r130_198, r130_199, r130_200, r130_201, r130_202, r130_203, r130_204, r130_206, r130_207, r130_208, r130_209, r130_210, r130_211, r130_213, r130_215, r130_216, r130_219, r130_221, r130_224, r130_225, r130_226, r130_229, r130_232, r130_233, r130_236, r130_239, r130_240, r130_241, r130_242, r130_243, r130_244, r130_245, r130_248, r130_251, r130_254, r130_257, am_gf_42_6, am_gf_42_9, am_gf_42_29, am_gf_42_31, am_ai_47, am_ai_66, am_ai_68, am_nl_i, am_nl_r, am_nl_n, am_nl_l, Option.bind_some, Option.toList_some, Option.toList_none, List.cons_append, List.nil_append, if_true, if_false, Bool.false_eq_true, Int.reduceEq, Int.reduceAdd, ↓reduceIte, hR.1, i_rf]
  | succ k ih =>
    intro p v2 σ hp hv hR hnm hB
    have hc : ¬ s_n T ≤ p := by omega
    have hp12 : p < 12 := by omega
    have hpn : p < s_n T := by omega
    have hn := hR.1
    have hR0 : RM (am_up σ 68 p 0) T := hR.keep (KM.of (fun c hc => am_up_ne (by omega)))
    have hn0 := hR0.1
    by_cases hs : s_sx T p = 0
    · obtain ⟨σ1, a1, a2, a3, a4⟩ := m_most_w (d := d) (τ := τ) hW hpn hs (s_n T) 0 (am_up σ 68 p 0) (by omega) hR0 (fun j hj => by rw [am_up_ne (by decide)]; exact hnm j hj) (fun x hx => by rw [am_up_eq, pk_us, b_0, decide_eq_false (Nat.not_lt_zero x), Bool.false_and])
      obtain ⟨σ', v2', g1, gv, g2, g3⟩ := ih (p + 1) (.int (nI (s_n T))) σ1 (by omega) rfl (hR0.keep (KM.of (fun c hc => a2 c (by omega) (by omega) (by omega)))) (fun j hj => by rw [a2 54 (by decide) (by decide) (by decide), am_up_ne (by decide)]; exact hnm j hj) (fun r hr x hx => by
        by_cases e : r = p
        · subst e; exact a4 x hx
        · rw [a3 r e, am_up_eq, pk_un e]; exact hB r (by omega) x hx)
      refine ⟨σ', v2', ?_, gv, fun a x y z => by rw [g2 a x y z, a2 a x y z, am_up_ne z], g3⟩
      have e0 : nI 0 = 0 := rfl
      rw [e0] at a1
      rw [← g1, r130_2]
      simp (disch := first | assumption | omega | rfl | exact Nat.le_of_ble_eq_true rfl | decide) only [r130_0, r130_1, r130_3, r130_4, r130_7, r130_10, r130_11, r130_14, r130_15, r130_16, r130_17, r130_18, r130_20, r130_21, r130_24, r130_27, r130_28, r130_31, r130_32, r130_33, r130_36, r130_37, r130_40, r130_41, r130_42, r130_43, r130_44, r130_45, r130_46, r130_49, r130_52, r130_53, r130_54, r130_55, r130_58, r130_59, r130_60, r130_61, r130_64, r130_67, r130_70, r130_74, r130_76, r130_77, r130_78, r130_81, r130_82, r130_85, r130_86, r130_89, r130_92, r130_93, r130_96, r130_97, r130_98, r130_99, r130_100, r130_101, r130_104, r130_107, r130_108, r130_111, r130_112, r130_113, r130_115, r130_118, r130_119, r130_121, r130_122, r130_123, r130_126, r130_127, r130_130, r130_131, r130_134, r130_137, r130_138, r130_139, r130_140, r130_141, r130_142, r130_143, r130_144, r130_145, r130_146, r130_150, r130_151, r130_154, r130_157, r130_158, r130_161, r130_162, r130_163, r130_166, r130_167, r130_170, r130_171, r130_172, r130_174, r130_175, r130_176, r130_177, r130_178, r130_181, r130_182, r130_184, r130_185, r130_186, r130_187, r130_190, r130_191, r130_192, r130_195, r130_198, r130_199, r130_200, r130_201, r130_202, r130_203, r130_204, r130_206, r130_207, r130_208, r130_209, r130_210, r130_211, r130_213, r130_215, r130_216, r130_219, r130_221, r130_224, r130_225, r130_226, r130_229, r130_232, r130_233, r130_236, r130_239, r130_240, r130_241, r130_242, r130_243, r130_244, r130_245, r130_248, r130_251, r130_254, r130_257, am_gf_42_6, am_gf_42_9, am_gf_42_29, am_gf_42_31, am_ai_47, am_ai_66, am_ai_68, am_nl_i, am_nl_r, am_nl_n, am_nl_l, Option.bind_some, Option.toList_some, Option.toList_none, List.cons_append, List.nil_append, if_true, if_false, Bool.false_eq_true, Int.reduceEq, Int.reduceAdd, ↓reduceIte, hn, ni_le, hc]
      rw [a1, r130_67]
      simp (disch := first | assumption | omega | rfl | exact Nat.le_of_ble_eq_true rfl | decide) only [r130_0, r130_1, r130_3, r130_4, r130_7, r130_10, r130_11, r130_14, r130_15, r130_16, r130_17, r130_18, r130_20, r130_21, r130_24, r130_27, r130_28, r130_31, r130_32, r130_33, r130_36, r130_37, r130_40, r130_41, r130_42, r130_43, r130_44, r130_45, r130_46, r130_49, r130_52, r130_53, r130_54, r130_55, r130_58, r130_59, r130_60, r130_61, r130_64, r130_70, r130_74, r130_76, r130_77, r130_78, r130_81, r130_82, r130_85, r130_86, r130_89, r130_92, r130_93, r130_96, r130_97, r130_98, r130_99, r130_100, r130_101, r130_104, r130_107, r130_108, r130_111, r130_112, r130_113, r130_115, r130_118, r130_119, r130_121, r130_122, r130_123, r130_126, r130_127, r130_130, r130_131, r130_134, r130_137, r130_138, r130_139, r130_140, r130_141, r130_142, r130_143, r130_144, r130_145, r130_146, r130_150, r130_151, r130_154, r130_157, r130_158, r130_161, r130_162, r130_163, r130_166, r130_167, r130_170, r130_171, r130_172, r130_174, r130_175, r130_176, r130_177, r130_178, r130_181, r130_182, r130_184, r130_185, r130_186, r130_187, r130_190, r130_191, r130_192, r130_195, r130_198, r130_199, r130_200, r130_201, r130_202, r130_203, r130_204, r130_206, r130_207, r130_208, r130_209, r130_210, r130_211, r130_213, r130_215, r130_216, r130_219, r130_221, r130_224, r130_225, r130_226, r130_229, r130_232, r130_233, r130_236, r130_239, r130_240, r130_241, r130_242, r130_243, r130_244, r130_245, r130_248, r130_251, r130_254, r130_257, am_gf_42_6, am_gf_42_9, am_gf_42_29, am_gf_42_31, am_ai_47, am_ai_66, am_ai_68, am_nl_i, am_nl_r, am_nl_n, am_nl_l, Option.bind_some, Option.toList_some, Option.toList_none, List.cons_append, List.nil_append, if_true, if_false, Bool.false_eq_true, Int.reduceEq, Int.reduceAdd, ↓reduceIte, nI_1]
    · have q47 : ¬ am_up σ 68 p 0 47 p = 0 := by rw [am_up_ne (by decide), (hR.2.1 p hpn).2.1]; exact hs
      have q47' : ¬ σ 47 p = 0 := by rw [(hR.2.1 p hpn).2.1]; exact hs
      obtain ⟨σ', v2', g1, gv, g2, g3⟩ := ih (p + 1) (.int 0) (am_up σ 68 p 0) (by omega) rfl hR0 (fun j hj => by rw [am_up_ne (by decide)]; exact hnm j hj) (fun r hr x hx => by
        rw [am_up_eq]
        by_cases e : r = p
        · subst e
          rw [pk_us, b_0]
          unfold s_ad
          rw [decide_eq_false hs, Bool.false_and, Bool.and_false]
        · rw [pk_un e]; exact hB r (by omega) x hx)
      refine ⟨σ', v2', ?_, gv, fun a x y z => by rw [g2 a x y z, am_up_ne z], g3⟩
      have hz : ¬ nI (s_n T) ≤ 0 := nI_nle (by omega) (by omega)
      rw [← g1, r130_2]
      simp (disch := first | assumption | omega | rfl | exact Nat.le_of_ble_eq_true rfl | decide) only [r130_0, r130_1, r130_3, r130_4, r130_7, r130_10, r130_11, r130_14, r130_15, r130_16, r130_17, r130_18, r130_19, r130_20, r130_21, r130_24, r130_27, r130_28, r130_31, r130_32, r130_33, r130_36, r130_37, r130_40, r130_41, r130_42, r130_43, r130_44, r130_45, r130_46, r130_49, r130_52, r130_53, r130_54, r130_55, r130_58, r130_59, r130_60, r130_61, r130_64, r130_67, r130_70, r130_74, r130_76, r130_77, r130_78, r130_81, r130_82, r130_85, r130_86, r130_89, r130_92, r130_93, r130_96, r130_97, r130_98, r130_99, r130_100, r130_101, r130_104, r130_107, r130_108, r130_111, r130_112, r130_113, r130_115, r130_118, r130_119, r130_121, r130_122, r130_123, r130_126, r130_127, r130_130, r130_131, r130_134, r130_137, r130_138, r130_139, r130_140, r130_141, r130_142, r130_143, r130_144, r130_145, r130_146, r130_150, r130_151, r130_154, r130_157, r130_158, r130_161, r130_162, r130_163, r130_166, r130_167, r130_170, r130_171, r130_172, r130_174, r130_175, r130_176, r130_177, r130_178, r130_181, r130_182, r130_184, r130_185, r130_186, r130_187, r130_190, r130_191, r130_192, r130_195, r130_198, r130_199, r130_200, r130_201, r130_202, r130_203, r130_204, r130_206, r130_207, r130_208, r130_209, r130_210, r130_211, r130_213, r130_215, r130_216, r130_219, r130_221, r130_224, r130_225, r130_226, r130_229, r130_232, r130_233, r130_236, r130_239, r130_240, r130_241, r130_242, r130_243, r130_244, r130_245, r130_248, r130_251, r130_254, r130_257, am_gf_42_6, am_gf_42_9, am_gf_42_29, am_gf_42_31, am_ai_47, am_ai_66, am_ai_68, am_nl_i, am_nl_r, am_nl_n, am_nl_l, Option.bind_some, Option.toList_some, Option.toList_none, List.cons_append, List.nil_append, if_true, if_false, Bool.false_eq_true, Int.reduceEq, Int.reduceAdd, ↓reduceIte, hn, ni_le, hc, am_up_ne, hz, q47', nI_1]
theorem m_most_2 {d n : Nat} {τ : Int64} {ad : Nat → Nat → Bool} {v2 : Value} (h12 : n ≤ 12) : ∀ k u (σ : am_St), u + k = 2 ^ n → σ 42 6 = nI n → (∀ w, w < u → σ 66 (4096 * n + w) = nI 0) → ∃ σ' : am_St, am_run d 130 75 [.ref 42, .int (nI u), v2, .null, .null, .null] [] σ τ = am_run d 130 107 [.ref 42, .int (nI (2 ^ n)), v2, .null, .null, .null] [] σ' τ ∧ (∀ a, a ≠ 66 → σ' a = σ a) ∧ ∀ w, w < 2 ^ n → σ' 66 (4096 * n + w) = nI 0 := by
  intro k
  have h2 := two_le h12
  have hsh := sh_pw13 n (by omega)
  induction k with
  | zero =>
    intro u σ hu hn h
    have e : u = 2 ^ n := by omega
    subst e
    refine ⟨σ, ?_, fun _ _ => rfl, h⟩
    rw [r130_75]
    simp (disch := first | assumption | omega | rfl | exact Nat.le_of_ble_eq_true rfl | decide) only [r130_0, r130_1, r130_3, r130_4, r130_7, r130_10, r130_11, r130_14, r130_15, r130_16, r130_17, r130_18, r130_20, r130_21, r130_24, r130_27, r130_28, r130_31, r130_32, r130_33, r130_36, r130_37, r130_40, r130_41, r130_42, r130_43, r130_44, r130_45, r130_46, r130_49, r130_52, r130_53, r130_54, r130_55, r130_58, r130_59, r130_60, r130_61, r130_64, r130_67, r130_70, r130_73, r130_74, r130_76, r130_77, r130_78, r130_81, r130_82, r130_85, r130_86, r130_89, r130_92, r130_93, r130_96, r130_97, r130_98, r130_99, r130_100, r130_101, r130_104, r130_108, r130_111, r130_112, r130_113, r130_115, r130_118, r130_119, r130_121, r130_122, r130_123, r130_126, r130_127, r130_130, r130_131, r130_134, r130_137, r130_138, r130_139, r130_140, r130_141, r130_142, r130_143, r130_144, r130_145, r130_146, r130_150, r130_151, r130_154, r130_157, r130_158, r130_161, r130_162, r130_163, r130_166, r130_167, r130_170, r130_171, r130_172, r130_174, r130_175, r130_176, r130_177, r130_178, r130_181, r130_182, r130_184, r130_185, r130_186, r130_187, r130_190, r130_191, r130_192, r130_195, r130_198, r130_199, r130_200, r130_201, r130_202, r130_203, r130_204, r130_206, r130_207, r130_208, r130_209, r130_210, r130_211, r130_213, r130_215, r130_216, r130_219, r130_221, r130_224, r130_225, r130_226, r130_229, r130_232, r130_233, r130_236, r130_239, r130_240, r130_241, r130_242, r130_243, r130_244, r130_245, r130_248, r130_251, r130_254, r130_257, am_gf_42_6, am_gf_42_9, am_gf_42_29, am_gf_42_31, am_ai_47, am_ai_66, am_ai_68, am_nl_i, am_nl_r, am_nl_n, am_nl_l, Option.bind_some, Option.toList_some, Option.toList_none, List.cons_append, List.nil_append, if_true, if_false, Bool.false_eq_true, Int.reduceEq, Int.reduceAdd, ↓reduceIte, hn, hsh, i_rf]
  | succ k ih =>
    intro u σ hu hn h
    have hc : ¬ 2 ^ n ≤ u := by omega
    have hix : 4096 * n + u < 53248 := by omega
    have hc' : ¬ nI (2 ^ n) ≤ nI u := by rw [ni_le (by omega) (by omega)]; exact hc
    obtain ⟨σ', g1, g2, g3⟩ := ih (u + 1) (am_up σ 66 (4096 * n + u) (nI 0)) (by omega) (by rw [am_up_ne (by decide)]; exact hn) (fun w hw => by
      rw [am_up_eq]
      by_cases e : w = u
      · subst e; rw [pk_us]
      · rw [pk_un (by omega)]; exact h w (by omega))
    refine ⟨σ', ?_, fun a x => by rw [g2 a x, am_up_ne x], g3⟩
    have e0 : (0 : Int32) = nI 0 := rfl
    rw [← g1, r130_75]
    simp (disch := first | assumption | omega | rfl | exact Nat.le_of_ble_eq_true rfl | decide) only [r130_0, r130_1, r130_3, r130_4, r130_7, r130_10, r130_11, r130_14, r130_15, r130_16, r130_17, r130_18, r130_20, r130_21, r130_24, r130_27, r130_28, r130_31, r130_32, r130_33, r130_36, r130_37, r130_40, r130_41, r130_42, r130_43, r130_44, r130_45, r130_46, r130_49, r130_52, r130_53, r130_54, r130_55, r130_58, r130_59, r130_60, r130_61, r130_64, r130_67, r130_70, r130_73, r130_74, r130_76, r130_77, r130_78, r130_81, r130_82, r130_85, r130_86, r130_89, r130_92, r130_93, r130_96, r130_97, r130_98, r130_99, r130_100, r130_101, r130_104, r130_108, r130_111, r130_112, r130_113, r130_115, r130_118, r130_119, r130_121, r130_122, r130_123, r130_126, r130_127, r130_130, r130_131, r130_134, r130_137, r130_138, r130_139, r130_140, r130_141, r130_142, r130_143, r130_144, r130_145, r130_146, r130_150, r130_151, r130_154, r130_157, r130_158, r130_161, r130_162, r130_163, r130_166, r130_167, r130_170, r130_171, r130_172, r130_174, r130_175, r130_176, r130_177, r130_178, r130_181, r130_182, r130_184, r130_185, r130_186, r130_187, r130_190, r130_191, r130_192, r130_195, r130_198, r130_199, r130_200, r130_201, r130_202, r130_203, r130_204, r130_206, r130_207, r130_208, r130_209, r130_210, r130_211, r130_213, r130_215, r130_216, r130_219, r130_221, r130_224, r130_225, r130_226, r130_229, r130_232, r130_233, r130_236, r130_239, r130_240, r130_241, r130_242, r130_243, r130_244, r130_245, r130_248, r130_251, r130_254, r130_257, am_gf_42_6, am_gf_42_9, am_gf_42_29, am_gf_42_31, am_ai_47, am_ai_66, am_ai_68, am_nl_i, am_nl_r, am_nl_n, am_nl_l, Option.bind_some, Option.toList_some, Option.toList_none, List.cons_append, List.nil_append, if_true, if_false, Bool.false_eq_true, Int.reduceEq, Int.reduceAdd, ↓reduceIte, hn, hsh, hc', show (4096 : Int32) = nI 4096 from rfl, pk_mul, nI_add, nI_1]
    rw [e0]
theorem m_most_q {d n p u : Nat} {σ : am_St} {τ : Int64} {ad : Nat → Nat → Bool} (h12 : n ≤ 12) (hn : σ 42 6 = nI n) (hp : p < n) (hu : u < 2 ^ n) (had : ∀ q, q < n → bt (σ 68 p) q = ad p q) (hz : ¬ σ 68 p = 0) (hM : MO n ad σ p 0) : ∀ k q (v5 : Value), q + k = n → ∃ v5' : Value, am_run d 130 148 [.ref 42, .int (nI p), .int (nI u), .int (nI (mxF (bsF n ad (n - (p + 1)) (p + 1) (tb u)) (fun q => ad p q && !tb u q) (fun q => 1 + bsF n ad (n - (p + 1)) (p + 1) (upB (tb u) q)) q)), .int (nI q), v5] [] σ τ = am_run d 130 232 [.ref 42, .int (nI p), .int (nI u), .int (nI (mxF (bsF n ad (n - (p + 1)) (p + 1) (tb u)) (fun q => ad p q && !tb u q) (fun q => 1 + bsF n ad (n - (p + 1)) (p + 1) (upB (tb u) q)) n)), .int (nI n), v5'] [] σ τ := by
  intro k
  have h2 := two_le h12
  have hbd : ∀ q, mxF (bsF n ad (n - (p + 1)) (p + 1) (tb u)) (fun q => ad p q && !tb u q) (fun q => 1 + bsF n ad (n - (p + 1)) (p + 1) (upB (tb u) q)) q ≤ 13 := by
    intro q
    rcases mxF_or (bsF n ad (n - (p + 1)) (p + 1) (tb u)) (fun q => ad p q && !tb u q) (fun q => 1 + bsF n ad (n - (p + 1)) (p + 1) (upB (tb u) q)) q with e | ⟨j, -, -, e⟩
    · rw [e]; have := bsF_le (n := n) (ad := ad) (n - (p + 1)) (p + 1) (tb u); omega
    · rw [e]; have := bsF_le (n := n) (ad := ad) (n - (p + 1)) (p + 1) (upB (tb u) j); omega
  induction k with
  | zero =>
    intro q v5 hq
    have e : q = n := by omega
    subst e
    refine ⟨v5, ?_⟩
    rw [r130_148]
    simp (disch := first | assumption | omega | rfl | exact Nat.le_of_ble_eq_true rfl | decide) only [r130_0, r130_1, r130_3, r130_4, r130_7, r130_10, r130_11, r130_14, r130_15, r130_16, r130_17, r130_18, r130_20, r130_21, r130_24, r130_27, r130_28, r130_31, r130_32, r130_33, r130_36, r130_37, r130_40, r130_41, r130_42, r130_43, r130_44, r130_45, r130_46, r130_49, r130_52, r130_53, r130_54, r130_55, r130_58, r130_59, r130_60, r130_61, r130_64, r130_67, r130_70, r130_73, r130_74, r130_76, r130_77, r130_78, r130_81, r130_82, r130_85, r130_86, r130_89, r130_92, r130_93, r130_96, r130_97, r130_98, r130_99, r130_100, r130_101, r130_104, r130_107, r130_108, r130_111, r130_112, r130_113, r130_115, r130_118, r130_119, r130_121, r130_122, r130_123, r130_126, r130_127, r130_130, r130_131, r130_134, r130_137, r130_138, r130_139, r130_140, r130_141, r130_142, r130_143, r130_144, r130_145, r130_146, r130_150, r130_151, r130_154, r130_157, r130_158, r130_161, r130_162, r130_163, r130_166, r130_167, r130_170, r130_171, r130_172, r130_174, r130_175, r130_176, r130_177, r130_178, r130_181, r130_182, r130_184, r130_185, r130_186, r130_187, r130_190, r130_191, r130_192, r130_195, r130_198, r130_199, r130_200, r130_201, r130_202, r130_203, r130_204, r130_206, r130_207, r130_208, r130_209, r130_210, r130_211, r130_213, r130_215, r130_216, r130_219, r130_221, r130_224, r130_225, r130_226, r130_229, r130_233, r130_236, r130_239, r130_240, r130_241, r130_242, r130_243, r130_244, r130_245, r130_248, r130_251, r130_254, r130_257, am_gf_42_6, am_gf_42_9, am_gf_42_29, am_gf_42_31, am_ai_47, am_ai_66, am_ai_68, am_nl_i, am_nl_r, am_nl_n, am_nl_l, Option.bind_some, Option.toList_some, Option.toList_none, List.cons_append, List.nil_append, if_true, if_false, Bool.false_eq_true, Int.reduceEq, Int.reduceAdd, ↓reduceIte, hn, i_rf]
  | succ k ih =>
    intro q v5 hq
    have hc : ¬ n ≤ q := by omega
    have hqn : q < n := by omega
    have hp12 : p < 12 := by omega
    have hs1 := sr_1 (x := σ 68 p) (q := q) (by omega)
    have hs2 := sr_1 (x := nI u) (q := q) (by omega)
    rw [had q hqn] at hs1
    rw [n_bt u (by omega)] at hs2
    have hms := mxF_s (bsF n ad (n - (p + 1)) (p + 1) (tb u)) (fun q => ad p q && !tb u q) (fun q => 1 + bsF n ad (n - (p + 1)) (p + 1) (upB (tb u) q)) q
    have hb0 := hbd q
    cases ha : ad p q with
    | false =>
      rw [ha, if_neg (by decide)] at hs1
      rw [if_neg (show ¬ (ad p q && !tb u q) = true by rw [ha, Bool.false_and]; decide)] at hms
      obtain ⟨v5', g1⟩ := ih (q + 1) v5 (by omega)
      refine ⟨v5', ?_⟩
      have e01 : ¬ (0 : Int32) = 1 := by decide
      rw [← g1, hms, r130_148]
      simp (disch := first | assumption | omega | rfl | exact Nat.le_of_ble_eq_true rfl | decide) only [r130_0, r130_1, r130_3, r130_4, r130_7, r130_10, r130_11, r130_14, r130_15, r130_16, r130_17, r130_18, r130_20, r130_21, r130_24, r130_27, r130_28, r130_31, r130_32, r130_33, r130_36, r130_37, r130_40, r130_41, r130_42, r130_43, r130_44, r130_45, r130_46, r130_49, r130_52, r130_53, r130_54, r130_55, r130_58, r130_59, r130_60, r130_61, r130_64, r130_67, r130_70, r130_73, r130_74, r130_76, r130_77, r130_78, r130_81, r130_82, r130_85, r130_86, r130_89, r130_92, r130_93, r130_96, r130_97, r130_98, r130_99, r130_100, r130_101, r130_104, r130_107, r130_108, r130_111, r130_112, r130_113, r130_115, r130_118, r130_119, r130_121, r130_122, r130_123, r130_126, r130_127, r130_130, r130_131, r130_134, r130_137, r130_138, r130_139, r130_140, r130_141, r130_142, r130_143, r130_144, r130_145, r130_146, r130_150, r130_151, r130_154, r130_157, r130_158, r130_161, r130_162, r130_163, r130_166, r130_167, r130_170, r130_171, r130_172, r130_174, r130_175, r130_176, r130_177, r130_178, r130_181, r130_182, r130_184, r130_185, r130_186, r130_187, r130_190, r130_191, r130_192, r130_195, r130_198, r130_199, r130_200, r130_201, r130_202, r130_203, r130_204, r130_206, r130_207, r130_208, r130_209, r130_210, r130_211, r130_213, r130_215, r130_216, r130_219, r130_221, r130_224, r130_225, r130_226, r130_229, r130_233, r130_236, r130_239, r130_240, r130_241, r130_242, r130_243, r130_244, r130_245, r130_248, r130_251, r130_254, r130_257, am_gf_42_6, am_gf_42_9, am_gf_42_29, am_gf_42_31, am_ai_47, am_ai_66, am_ai_68, am_nl_i, am_nl_r, am_nl_n, am_nl_l, Option.bind_some, Option.toList_some, Option.toList_none, List.cons_append, List.nil_append, if_true, if_false, Bool.false_eq_true, Int.reduceEq, Int.reduceAdd, ↓reduceIte, hn, ni_le, hc, hz, hs1, e01, nI_1]
    | true =>
      rw [ha, if_pos rfl] at hs1
      cases hu2 : u.testBit q with
      | true =>
        rw [hu2, if_pos rfl] at hs2
        rw [if_neg (show ¬ (ad p q && !tb u q) = true by unfold tb; rw [ha, hu2]; decide)] at hms
        obtain ⟨v5', g1⟩ := ih (q + 1) v5 (by omega)
        refine ⟨v5', ?_⟩
        rw [← g1, hms, r130_148]
        simp (disch := first | assumption | omega | rfl | exact Nat.le_of_ble_eq_true rfl | decide) only [r130_0, r130_1, r130_3, r130_4, r130_7, r130_10, r130_11, r130_14, r130_15, r130_16, r130_17, r130_18, r130_20, r130_21, r130_24, r130_27, r130_28, r130_31, r130_32, r130_33, r130_36, r130_37, r130_40, r130_41, r130_42, r130_43, r130_44, r130_45, r130_46, r130_49, r130_52, r130_53, r130_54, r130_55, r130_58, r130_59, r130_60, r130_61, r130_64, r130_67, r130_70, r130_73, r130_74, r130_76, r130_77, r130_78, r130_81, r130_82, r130_85, r130_86, r130_89, r130_92, r130_93, r130_96, r130_97, r130_98, r130_99, r130_100, r130_101, r130_104, r130_107, r130_108, r130_111, r130_112, r130_113, r130_115, r130_118, r130_119, r130_121, r130_122, r130_123, r130_126, r130_127, r130_130, r130_131, r130_134, r130_137, r130_138, r130_139, r130_140, r130_141, r130_142, r130_143, r130_144, r130_145, r130_146, r130_150, r130_151, r130_154, r130_157, r130_158, r130_161, r130_162, r130_163, r130_166, r130_167, r130_170, r130_171, r130_172, r130_174, r130_175, r130_176, r130_177, r130_178, r130_181, r130_182, r130_184, r130_185, r130_186, r130_187, r130_190, r130_191, r130_192, r130_195, r130_198, r130_199, r130_200, r130_201, r130_202, r130_203, r130_204, r130_206, r130_207, r130_208, r130_209, r130_210, r130_211, r130_213, r130_215, r130_216, r130_219, r130_221, r130_224, r130_225, r130_226, r130_229, r130_233, r130_236, r130_239, r130_240, r130_241, r130_242, r130_243, r130_244, r130_245, r130_248, r130_251, r130_254, r130_257, am_gf_42_6, am_gf_42_9, am_gf_42_29, am_gf_42_31, am_ai_47, am_ai_66, am_ai_68, am_nl_i, am_nl_r, am_nl_n, am_nl_l, Option.bind_some, Option.toList_some, Option.toList_none, List.cons_append, List.nil_append, if_true, if_false, Bool.false_eq_true, Int.reduceEq, Int.reduceAdd, ↓reduceIte, hn, ni_le, hc, hz, hs1, hs2, e10, nI_1]
      | false =>
        rw [hu2, if_neg (by decide)] at hs2
        rw [if_pos (show (ad p q && !tb u q) = true by unfold tb; rw [ha, hu2]; decide)] at hms
        have hor := or_lt hu hqn
        have hix : 4096 * (p + 1) + (u ||| 2 ^ q) < 53248 := by omega
        have hval := hM (p + 1) (u ||| 2 ^ q) (by omega) hor (Or.inl (by omega))
        rw [tb_or] at hval
        have hsh := sh_pw13 q (by omega)
        have hble : bsF n ad (n - (p + 1)) (p + 1) (upB (tb u) q) ≤ 12 := by have := bsF_le (n := n) (ad := ad) (n - (p + 1)) (p + 1) (upB (tb u) q); omega
        have e1 : (1 : Int32) + nI (bsF n ad (n - (p + 1)) (p + 1) (upB (tb u) q)) = nI (1 + bsF n ad (n - (p + 1)) (p + 1) (upB (tb u) q)) := nI_add 1 _
        obtain ⟨v5', g1⟩ := ih (q + 1) (.int (nI (1 + bsF n ad (n - (p + 1)) (p + 1) (upB (tb u) q)))) (by omega)
        refine ⟨v5', ?_⟩
        rw [← g1, hms]
        generalize mxF (bsF n ad (n - (p + 1)) (p + 1) (tb u)) (fun q => ad p q && !tb u q) (fun q => 1 + bsF n ad (n - (p + 1)) (p + 1) (upB (tb u) q)) q = X at hb0
        rw [r130_148]
        by_cases hlt : X < 1 + bsF n ad (n - (p + 1)) (p + 1) (upB (tb u) q)
        · have hl : ¬ nI (1 + bsF n ad (n - (p + 1)) (p + 1) (upB (tb u) q)) ≤ nI X := by rw [ni_le (by omega) (by omega)]; omega
          rw [if_pos hlt]
          simp (disch := first | assumption | omega | rfl | exact Nat.le_of_ble_eq_true rfl | decide) only [r130_0, r130_1, r130_3, r130_4, r130_7, r130_10, r130_11, r130_14, r130_15, r130_16, r130_17, r130_18, r130_20, r130_21, r130_24, r130_27, r130_28, r130_31, r130_32, r130_33, r130_36, r130_37, r130_40, r130_41, r130_42, r130_43, r130_44, r130_45, r130_46, r130_49, r130_52, r130_53, r130_54, r130_55, r130_58, r130_59, r130_60, r130_61, r130_64, r130_67, r130_70, r130_73, r130_74, r130_76, r130_77, r130_78, r130_81, r130_82, r130_85, r130_86, r130_89, r130_92, r130_93, r130_96, r130_97, r130_98, r130_99, r130_100, r130_101, r130_104, r130_107, r130_108, r130_111, r130_112, r130_113, r130_115, r130_118, r130_119, r130_121, r130_122, r130_123, r130_126, r130_127, r130_130, r130_131, r130_134, r130_137, r130_138, r130_139, r130_140, r130_141, r130_142, r130_143, r130_144, r130_145, r130_146, r130_150, r130_151, r130_154, r130_157, r130_158, r130_161, r130_162, r130_163, r130_166, r130_167, r130_170, r130_171, r130_172, r130_174, r130_175, r130_176, r130_177, r130_178, r130_181, r130_182, r130_184, r130_185, r130_186, r130_187, r130_190, r130_191, r130_192, r130_195, r130_198, r130_199, r130_200, r130_201, r130_202, r130_203, r130_204, r130_206, r130_207, r130_208, r130_209, r130_210, r130_211, r130_213, r130_215, r130_216, r130_219, r130_221, r130_224, r130_225, r130_226, r130_229, r130_233, r130_236, r130_239, r130_240, r130_241, r130_242, r130_243, r130_244, r130_245, r130_248, r130_251, r130_254, r130_257, am_gf_42_6, am_gf_42_9, am_gf_42_29, am_gf_42_31, am_ai_47, am_ai_66, am_ai_68, am_nl_i, am_nl_r, am_nl_n, am_nl_l, Option.bind_some, Option.toList_some, Option.toList_none, List.cons_append, List.nil_append, if_true, if_false, Bool.false_eq_true, Int.reduceEq, Int.reduceAdd, ↓reduceIte, hn, ni_le, hc, hz, hs1, hs2, show (4096 : Int32) = nI 4096 from rfl, nI_1, pk_mul, hsh, ni_or, nI_add, hval, e1, hl]
        · have hl : nI (1 + bsF n ad (n - (p + 1)) (p + 1) (upB (tb u) q)) ≤ nI X := nI_le (by omega) (by omega)
          rw [if_neg hlt]
          simp (disch := first | assumption | omega | rfl | exact Nat.le_of_ble_eq_true rfl | decide) only [r130_0, r130_1, r130_3, r130_4, r130_7, r130_10, r130_11, r130_14, r130_15, r130_16, r130_17, r130_18, r130_20, r130_21, r130_24, r130_27, r130_28, r130_31, r130_32, r130_33, r130_36, r130_37, r130_40, r130_41, r130_42, r130_43, r130_44, r130_45, r130_46, r130_49, r130_52, r130_53, r130_54, r130_55, r130_58, r130_59, r130_60, r130_61, r130_64, r130_67, r130_70, r130_73, r130_74, r130_76, r130_77, r130_78, r130_81, r130_82, r130_85, r130_86, r130_89, r130_92, r130_93, r130_96, r130_97, r130_98, r130_99, r130_100, r130_101, r130_104, r130_107, r130_108, r130_111, r130_112, r130_113, r130_115, r130_118, r130_119, r130_121, r130_122, r130_123, r130_126, r130_127, r130_130, r130_131, r130_134, r130_137, r130_138, r130_139, r130_140, r130_141, r130_142, r130_143, r130_144, r130_145, r130_146, r130_150, r130_151, r130_154, r130_157, r130_158, r130_161, r130_162, r130_163, r130_166, r130_167, r130_170, r130_171, r130_172, r130_174, r130_175, r130_176, r130_177, r130_178, r130_181, r130_182, r130_184, r130_185, r130_186, r130_187, r130_190, r130_191, r130_192, r130_195, r130_198, r130_199, r130_200, r130_201, r130_202, r130_203, r130_204, r130_206, r130_207, r130_208, r130_209, r130_210, r130_211, r130_213, r130_215, r130_216, r130_219, r130_221, r130_224, r130_225, r130_226, r130_229, r130_233, r130_236, r130_239, r130_240, r130_241, r130_242, r130_243, r130_244, r130_245, r130_248, r130_251, r130_254, r130_257, am_gf_42_6, am_gf_42_9, am_gf_42_29, am_gf_42_31, am_ai_47, am_ai_66, am_ai_68, am_nl_i, am_nl_r, am_nl_n, am_nl_l, Option.bind_some, Option.toList_some, Option.toList_none, List.cons_append, List.nil_append, if_true, if_false, Bool.false_eq_true, Int.reduceEq, Int.reduceAdd, ↓reduceIte, hn, ni_le, hc, hz, hs1, hs2, show (4096 : Int32) = nI 4096 from rfl, nI_1, pk_mul, hsh, ni_or, nI_add, hval, e1, hl]
theorem m_most_u {d n p : Nat} {τ : Int64} {ad : Nat → Nat → Bool} (h12 : n ≤ 12) (hp : p < n) : ∀ k u (v3 v4 v5 : Value) (σ : am_St), u + k = 2 ^ n → am_nl v3 = v3 → σ 42 6 = nI n → (∀ q, q < n → bt (σ 68 p) q = ad p q) → MO n ad σ p u → ∃ (σ' : am_St) (v3' v4' v5' : Value), am_run d 130 120 [.ref 42, .int (nI p), .int (nI u), v3, v4, v5] [] σ τ = am_run d 130 251 [.ref 42, .int (nI p), .int (nI (2 ^ n)), v3', v4', v5'] [] σ' τ ∧ am_nl v3' = v3' ∧ (∀ a, a ≠ 66 → σ' a = σ a) ∧ MO n ad σ' p (2 ^ n) := by
  intro k
  have h2 := two_le h12
  have hsh := sh_pw13 n (by omega)
  induction k with
  | zero =>
    intro u v3 v4 v5 σ hu hv hn had hM
    have e : u = 2 ^ n := by omega
    subst e
    refine ⟨σ, v3, v4, v5, ?_, hv, fun _ _ => rfl, hM⟩
    rw [r130_120]
    simp (disch := first | assumption | omega | rfl | exact Nat.le_of_ble_eq_true rfl | decide) only [r130_0, r130_1, r130_3, r130_4, r130_7, r130_10, r130_11, r130_14, r130_15, r130_16, r130_17, r130_18, r130_20, r130_21, r130_24, r130_27, r130_28, r130_31, r130_32, r130_33, r130_36, r130_37, r130_40, r130_41, r130_42, r130_43, r130_44, r130_45, r130_46, r130_49, r130_52, r130_53, r130_54, r130_55, r130_58, r130_59, r130_60, r130_61, r130_64, r130_67, r130_70, r130_73, r130_74, r130_76, r130_77, r130_78, r130_81, r130_82, r130_85, r130_86, r130_89, r130_92, r130_93, r130_96, r130_97, r130_98, r130_99, r130_100, r130_101, r130_104, r130_107, r130_108, r130_111, r130_112, r130_113, r130_115, r130_118, r130_119, r130_121, r130_122, r130_123, r130_126, r130_127, r130_130, r130_131, r130_134, r130_137, r130_138, r130_139, r130_140, r130_141, r130_142, r130_143, r130_144, r130_145, r130_146, r130_150, r130_151, r130_154, r130_157, r130_158, r130_161, r130_162, r130_163, r130_166, r130_167, r130_170, r130_171, r130_172, r130_174, r130_175, r130_176, r130_177, r130_178, r130_181, r130_182, r130_184, r130_185, r130_186, r130_187, r130_190, r130_191, r130_192, r130_195, r130_198, r130_199, r130_200, r130_201, r130_202, r130_203, r130_204, r130_206, r130_207, r130_208, r130_209, r130_210, r130_211, r130_213, r130_215, r130_216, r130_219, r130_221, r130_224, r130_225, r130_226, r130_229, r130_232, r130_233, r130_236, r130_239, r130_240, r130_241, r130_242, r130_243, r130_244, r130_245, r130_248, r130_254, r130_257, am_gf_42_6, am_gf_42_9, am_gf_42_29, am_gf_42_31, am_ai_47, am_ai_66, am_ai_68, am_nl_i, am_nl_r, am_nl_n, am_nl_l, Option.bind_some, Option.toList_some, Option.toList_none, List.cons_append, List.nil_append, if_true, if_false, Bool.false_eq_true, Int.reduceEq, Int.reduceAdd, ↓reduceIte, hn, hsh, i_rf]
  | succ k ih =>
    intro u v3 v4 v5 σ hu hv hn had hM
    have hun : u < 2 ^ n := by omega
    have hc' : ¬ nI (2 ^ n) ≤ nI u := by rw [ni_le (by omega) (by omega)]; omega
    have hp12 : p < 12 := by omega
    have hix : 4096 * (p + 1) + u < 53248 := by omega
    have hix2 : 4096 * p + u < 53248 := by omega
    have hval := hM (p + 1) u (by omega) hun (Or.inl (by omega))
    have hM0 : MO n ad σ p 0 := fun r w hr hw h => hM r w hr hw (by omega)
    have hrow : bsF n ad (n - p) p (tb u) = mxF (bsF n ad (n - (p + 1)) (p + 1) (tb u)) (fun q => ad p q && !tb u q) (fun q => 1 + bsF n ad (n - (p + 1)) (p + 1) (upB (tb u) q)) n := by
      rw [show n - p = (n - (p + 1)) + 1 by omega, bsF_s]
    -- the row's number, by the loop or without it
    have lp : ∃ v4' v5' : Value, am_run d 130 148 [.ref 42, .int (nI p), .int (nI u), .int (nI (bsF n ad (n - (p + 1)) (p + 1) (tb u))), .int (nI 0), v5] [] σ τ = am_run d 130 232 [.ref 42, .int (nI p), .int (nI u), .int (nI (bsF n ad (n - p) p (tb u))), v4', v5'] [] σ τ := by
      by_cases hz : σ 68 p = 0
      · have hall : ∀ q, q < n → ad p q = false := fun q hq => by rw [← had q hq, hz, b_0]
        have hb : bsF n ad (n - p) p (tb u) = bsF n ad (n - (p + 1)) (p + 1) (tb u) := by
          rw [hrow]
          rcases mxF_or (bsF n ad (n - (p + 1)) (p + 1) (tb u)) (fun q => ad p q && !tb u q) (fun q => 1 + bsF n ad (n - (p + 1)) (p + 1) (upB (tb u) q)) n with e | ⟨j, hj, hpj, -⟩
          · exact e
          · rw [hall j hj, Bool.false_and] at hpj; cases hpj
        refine ⟨.int (nI 0), v5, ?_⟩
        have hn0 : ¬ n ≤ 0 := by omega
        rw [hb, r130_148]
        simp (disch := first | assumption | omega | rfl | exact Nat.le_of_ble_eq_true rfl | decide) only [r130_0, r130_1, r130_3, r130_4, r130_7, r130_10, r130_11, r130_14, r130_15, r130_16, r130_17, r130_18, r130_20, r130_21, r130_24, r130_27, r130_28, r130_31, r130_32, r130_33, r130_36, r130_37, r130_40, r130_41, r130_42, r130_43, r130_44, r130_45, r130_46, r130_49, r130_52, r130_53, r130_54, r130_55, r130_58, r130_59, r130_60, r130_61, r130_64, r130_67, r130_70, r130_73, r130_74, r130_76, r130_77, r130_78, r130_81, r130_82, r130_85, r130_86, r130_89, r130_92, r130_93, r130_96, r130_97, r130_98, r130_99, r130_100, r130_101, r130_104, r130_107, r130_108, r130_111, r130_112, r130_113, r130_115, r130_118, r130_119, r130_121, r130_122, r130_123, r130_126, r130_127, r130_130, r130_131, r130_134, r130_137, r130_138, r130_139, r130_140, r130_141, r130_142, r130_143, r130_144, r130_145, r130_146, r130_150, r130_151, r130_154, r130_157, r130_158, r130_161, r130_162, r130_163, r130_166, r130_167, r130_170, r130_171, r130_172, r130_174, r130_175, r130_176, r130_177, r130_178, r130_181, r130_182, r130_184, r130_185, r130_186, r130_187, r130_190, r130_191, r130_192, r130_195, r130_198, r130_199, r130_200, r130_201, r130_202, r130_203, r130_204, r130_206, r130_207, r130_208, r130_209, r130_210, r130_211, r130_213, r130_215, r130_216, r130_219, r130_221, r130_224, r130_225, r130_226, r130_229, r130_233, r130_236, r130_239, r130_240, r130_241, r130_242, r130_243, r130_244, r130_245, r130_248, r130_251, r130_254, r130_257, am_gf_42_6, am_gf_42_9, am_gf_42_29, am_gf_42_31, am_ai_47, am_ai_66, am_ai_68, am_nl_i, am_nl_r, am_nl_n, am_nl_l, Option.bind_some, Option.toList_some, Option.toList_none, List.cons_append, List.nil_append, if_true, if_false, Bool.false_eq_true, Int.reduceEq, Int.reduceAdd, ↓reduceIte, hn, ni_le, hn0, hz]
      · obtain ⟨v5', g1⟩ := m_most_q (d := d) (τ := τ) h12 hn hp hun had hz hM0 n 0 v5 (by omega)
        rw [← hrow] at g1
        exact ⟨_, v5', g1⟩
    obtain ⟨w4, w5, lp⟩ := lp
    obtain ⟨σ', v3', v4', v5', g1, gv, g2, g3⟩ := ih (u + 1) (.int (nI (bsF n ad (n - p) p (tb u)))) w4 w5 (am_up σ 66 (4096 * p + u) (nI (bsF n ad (n - p) p (tb u)))) (by omega) rfl (by rw [am_up_ne (by decide)]; exact hn) (fun q hq => by rw [am_up_ne (by decide)]; exact had q hq) (fun r w hr hw h => by
      rw [am_up_eq]
      by_cases e : r = p ∧ w = u
      · rw [e.1, e.2, pk_us]
      · rw [pk_un (by omega)]
        exact hM r w hr hw (by omega))
    refine ⟨σ', v3', v4', v5', ?_, gv, fun a x => by rw [g2 a x, am_up_ne x], g3⟩
    have e0 : nI 0 = 0 := rfl
    rw [e0] at lp
    rw [← g1, r130_120]
    simp (disch := first | assumption | omega | rfl | exact Nat.le_of_ble_eq_true rfl | decide) only [r130_0, r130_1, r130_3, r130_4, r130_7, r130_10, r130_11, r130_14, r130_15, r130_16, r130_17, r130_18, r130_20, r130_21, r130_24, r130_27, r130_28, r130_31, r130_32, r130_33, r130_36, r130_37, r130_40, r130_41, r130_42, r130_43, r130_44, r130_45, r130_46, r130_49, r130_52, r130_53, r130_54, r130_55, r130_58, r130_59, r130_60, r130_61, r130_64, r130_67, r130_70, r130_73, r130_74, r130_76, r130_77, r130_78, r130_81, r130_82, r130_85, r130_86, r130_89, r130_92, r130_93, r130_96, r130_97, r130_98, r130_99, r130_100, r130_101, r130_104, r130_107, r130_108, r130_111, r130_112, r130_113, r130_115, r130_118, r130_119, r130_121, r130_122, r130_123, r130_126, r130_127, r130_130, r130_131, r130_134, r130_137, r130_138, r130_139, r130_140, r130_141, r130_142, r130_143, r130_144, r130_145, r130_146, r130_150, r130_151, r130_154, r130_157, r130_158, r130_161, r130_162, r130_163, r130_166, r130_167, r130_170, r130_171, r130_172, r130_174, r130_175, r130_176, r130_177, r130_178, r130_181, r130_182, r130_184, r130_185, r130_186, r130_187, r130_190, r130_191, r130_192, r130_195, r130_198, r130_199, r130_200, r130_201, r130_202, r130_203, r130_204, r130_206, r130_207, r130_208, r130_209, r130_210, r130_211, r130_213, r130_215, r130_216, r130_219, r130_221, r130_224, r130_225, r130_226, r130_229, r130_232, r130_233, r130_236, r130_239, r130_240, r130_241, r130_242, r130_243, r130_244, r130_245, r130_248, r130_251, r130_254, r130_257, am_gf_42_6, am_gf_42_9, am_gf_42_29, am_gf_42_31, am_ai_47, am_ai_66, am_ai_68, am_nl_i, am_nl_r, am_nl_n, am_nl_l, Option.bind_some, Option.toList_some, Option.toList_none, List.cons_append, List.nil_append, if_true, if_false, Bool.false_eq_true, Int.reduceEq, Int.reduceAdd, ↓reduceIte, hn, hsh, hc', show (4096 : Int32) = nI 4096 from rfl, nI_1, pk_mul, nI_add, hval]
    rw [lp, r130_232]
    simp (disch := first | assumption | omega | rfl | exact Nat.le_of_ble_eq_true rfl | decide) only [r130_0, r130_1, r130_3, r130_4, r130_7, r130_10, r130_11, r130_14, r130_15, r130_16, r130_17, r130_18, r130_20, r130_21, r130_24, r130_27, r130_28, r130_31, r130_32, r130_33, r130_36, r130_37, r130_40, r130_41, r130_42, r130_43, r130_44, r130_45, r130_46, r130_49, r130_52, r130_53, r130_54, r130_55, r130_58, r130_59, r130_60, r130_61, r130_64, r130_67, r130_70, r130_73, r130_74, r130_76, r130_77, r130_78, r130_81, r130_82, r130_85, r130_86, r130_89, r130_92, r130_93, r130_96, r130_97, r130_98, r130_99, r130_100, r130_101, r130_104, r130_107, r130_108, r130_111, r130_112, r130_113, r130_115, r130_118, r130_119, r130_121, r130_122, r130_123, r130_126, r130_127, r130_130, r130_131, r130_134, r130_137, r130_138, r130_139, r130_140, r130_141, r130_142, r130_143, r130_144, r130_145, r130_146, r130_150, r130_151, r130_154, r130_157, r130_158, r130_161, r130_162, r130_163, r130_166, r130_167, r130_170, r130_171, r130_172, r130_174, r130_175, r130_176, r130_177, r130_178, r130_181, r130_182, r130_184, r130_185, r130_186, r130_187, r130_190, r130_191, r130_192, r130_195, r130_198, r130_199, r130_200, r130_201, r130_202, r130_203, r130_204, r130_206, r130_207, r130_208, r130_209, r130_210, r130_211, r130_213, r130_215, r130_216, r130_219, r130_221, r130_224, r130_225, r130_226, r130_229, r130_233, r130_236, r130_239, r130_240, r130_241, r130_242, r130_243, r130_244, r130_245, r130_248, r130_251, r130_254, r130_257, am_gf_42_6, am_gf_42_9, am_gf_42_29, am_gf_42_31, am_ai_47, am_ai_66, am_ai_68, am_nl_i, am_nl_r, am_nl_n, am_nl_l, Option.bind_some, Option.toList_some, Option.toList_none, List.cons_append, List.nil_append, if_true, if_false, Bool.false_eq_true, Int.reduceEq, Int.reduceAdd, ↓reduceIte, show (4096 : Int32) = nI 4096 from rfl, pk_mul, nI_add, nI_1]
theorem m_most_p {d n : Nat} {τ : Int64} {ad : Nat → Nat → Bool} (h12 : n ≤ 12) : ∀ p (v2 v3 v4 v5 : Value) (σ : am_St), p ≤ n → am_nl v3 = v3 → am_nl v2 = v2 → σ 42 6 = nI n → (∀ r, r < n → ∀ q, q < n → bt (σ 68 r) q = ad r q) → MO n ad σ p (2 ^ n) → ∃ σ' : am_St, am_run d 130 114 [.ref 42, .int (nI p - 1), v2, v3, v4, v5] [] σ τ = some (none, σ', τ) ∧ (∀ a, a ≠ 66 → σ' a = σ a) ∧ MO n ad σ' 0 (2 ^ n) := by
  intro p
  have h2 := two_le h12
  induction p with
  | zero =>
    intro v2 v3 v4 v5 σ hp hv hv2 hn had hM
    refine ⟨σ, ?_, fun _ _ => rfl, hM⟩
    have e : nI 0 - 1 < 0 := by decide
    rw [r130_114]
    simp (disch := first | assumption | omega | rfl | exact Nat.le_of_ble_eq_true rfl | decide) only [r130_0, r130_1, r130_3, r130_4, r130_7, r130_10, r130_11, r130_14, r130_15, r130_16, r130_17, r130_18, r130_20, r130_21, r130_24, r130_27, r130_28, r130_31, r130_32, r130_33, r130_36, r130_37, r130_40, r130_41, r130_42, r130_43, r130_44, r130_45, r130_46, r130_49, r130_52, r130_53, r130_54, r130_55, r130_58, r130_59, r130_60, r130_61, r130_64, r130_67, r130_70, r130_73, r130_74, r130_76, r130_77, r130_78, r130_81, r130_82, r130_85, r130_86, r130_89, r130_92, r130_93, r130_96, r130_97, r130_98, r130_99, r130_100, r130_101, r130_104, r130_107, r130_108, r130_111, r130_112, r130_113, r130_115, r130_118, r130_119, r130_121, r130_122, r130_123, r130_126, r130_127, r130_130, r130_131, r130_134, r130_137, r130_138, r130_139, r130_140, r130_141, r130_142, r130_143, r130_144, r130_145, r130_146, r130_150, r130_151, r130_154, r130_157, r130_158, r130_161, r130_162, r130_163, r130_166, r130_167, r130_170, r130_171, r130_172, r130_174, r130_175, r130_176, r130_177, r130_178, r130_181, r130_182, r130_184, r130_185, r130_186, r130_187, r130_190, r130_191, r130_192, r130_195, r130_198, r130_199, r130_200, r130_201, r130_202, r130_203, r130_204, r130_206, r130_207, r130_208, r130_209, r130_210, r130_211, r130_213, r130_215, r130_216, r130_219, r130_221, r130_224, r130_225, r130_226, r130_229, r130_232, r130_233, r130_236, r130_239, r130_240, r130_241, r130_242, r130_243, r130_244, r130_245, r130_248, r130_251, r130_254, r130_257, am_gf_42_6, am_gf_42_9, am_gf_42_29, am_gf_42_31, am_ai_47, am_ai_66, am_ai_68, am_nl_i, am_nl_r, am_nl_n, am_nl_l, Option.bind_some, Option.toList_some, Option.toList_none, List.cons_append, List.nil_append, if_true, if_false, Bool.false_eq_true, Int.reduceEq, Int.reduceAdd, ↓reduceIte, e]
  | succ p ih =>
    intro v2 v3 v4 v5 σ hp hv hv2 hn had hM
    have hz : ¬ nI p < 0 := nI_pos (by omega)
    obtain ⟨σ1, w3, w4, w5, a1, hv3, a2, a3⟩ := m_most_u (d := d) (τ := τ) (ad := ad) h12 (show p < n by omega) (2 ^ n) 0 v3 v4 v5 σ (by omega) hv hn (fun q hq => had p (by omega) q hq) (fun r w hr hw h => hM r w hr hw (by omega))
    obtain ⟨σ', g1, g2, g3⟩ := ih (.int (nI (2 ^ n))) w3 w4 w5 σ1 (by omega) hv3 rfl (by rw [a2 42 (by decide)]; exact hn) (fun r hr q hq => by rw [a2 68 (by decide)]; exact had r hr q hq) a3
    refine ⟨σ', ?_, fun a x => by rw [g2 a x, a2 a x], g3⟩
    have e0 : nI 0 = 0 := rfl
    rw [e0] at a1
    rw [← g1, r130_114, nI_pred]
    simp (disch := first | assumption | omega | rfl | exact Nat.le_of_ble_eq_true rfl | decide) only [r130_0, r130_1, r130_3, r130_4, r130_7, r130_10, r130_11, r130_14, r130_15, r130_16, r130_17, r130_18, r130_20, r130_21, r130_24, r130_27, r130_28, r130_31, r130_32, r130_33, r130_36, r130_37, r130_40, r130_41, r130_42, r130_43, r130_44, r130_45, r130_46, r130_49, r130_52, r130_53, r130_54, r130_55, r130_58, r130_59, r130_60, r130_61, r130_64, r130_67, r130_70, r130_73, r130_74, r130_76, r130_77, r130_78, r130_81, r130_82, r130_85, r130_86, r130_89, r130_92, r130_93, r130_96, r130_97, r130_98, r130_99, r130_100, r130_101, r130_104, r130_107, r130_108, r130_111, r130_112, r130_113, r130_115, r130_118, r130_119, r130_121, r130_122, r130_123, r130_126, r130_127, r130_130, r130_131, r130_134, r130_137, r130_138, r130_139, r130_140, r130_141, r130_142, r130_143, r130_144, r130_145, r130_146, r130_150, r130_151, r130_154, r130_157, r130_158, r130_161, r130_162, r130_163, r130_166, r130_167, r130_170, r130_171, r130_172, r130_174, r130_175, r130_176, r130_177, r130_178, r130_181, r130_182, r130_184, r130_185, r130_186, r130_187, r130_190, r130_191, r130_192, r130_195, r130_198, r130_199, r130_200, r130_201, r130_202, r130_203, r130_204, r130_206, r130_207, r130_208, r130_209, r130_210, r130_211, r130_213, r130_215, r130_216, r130_219, r130_221, r130_224, r130_225, r130_226, r130_229, r130_232, r130_233, r130_236, r130_239, r130_240, r130_241, r130_242, r130_243, r130_244, r130_245, r130_248, r130_251, r130_254, r130_257, am_gf_42_6, am_gf_42_9, am_gf_42_29, am_gf_42_31, am_ai_47, am_ai_66, am_ai_68, am_nl_i, am_nl_r, am_nl_n, am_nl_l, Option.bind_some, Option.toList_some, Option.toList_none, List.cons_append, List.nil_append, if_true, if_false, Bool.false_eq_true, Int.reduceEq, Int.reduceAdd, ↓reduceIte, hz]
    rw [a1, r130_251]
    simp (disch := first | assumption | omega | rfl | exact Nat.le_of_ble_eq_true rfl | decide) only [r130_0, r130_1, r130_3, r130_4, r130_7, r130_10, r130_11, r130_14, r130_15, r130_16, r130_17, r130_18, r130_20, r130_21, r130_24, r130_27, r130_28, r130_31, r130_32, r130_33, r130_36, r130_37, r130_40, r130_41, r130_42, r130_43, r130_44, r130_45, r130_46, r130_49, r130_52, r130_53, r130_54, r130_55, r130_58, r130_59, r130_60, r130_61, r130_64, r130_67, r130_70, r130_73, r130_74, r130_76, r130_77, r130_78, r130_81, r130_82, r130_85, r130_86, r130_89, r130_92, r130_93, r130_96, r130_97, r130_98, r130_99, r130_100, r130_101, r130_104, r130_107, r130_108, r130_111, r130_112, r130_113, r130_115, r130_118, r130_119, r130_121, r130_122, r130_123, r130_126, r130_127, r130_130, r130_131, r130_134, r130_137, r130_138, r130_139, r130_140, r130_141, r130_142, r130_143, r130_144, r130_145, r130_146, r130_150, r130_151, r130_154, r130_157, r130_158, r130_161, r130_162, r130_163, r130_166, r130_167, r130_170, r130_171, r130_172, r130_174, r130_175, r130_176, r130_177, r130_178, r130_181, r130_182, r130_184, r130_185, r130_186, r130_187, r130_190, r130_191, r130_192, r130_195, r130_198, r130_199, r130_200, r130_201, r130_202, r130_203, r130_204, r130_206, r130_207, r130_208, r130_209, r130_210, r130_211, r130_213, r130_215, r130_216, r130_219, r130_221, r130_224, r130_225, r130_226, r130_229, r130_232, r130_233, r130_236, r130_239, r130_240, r130_241, r130_242, r130_243, r130_244, r130_245, r130_248, r130_254, r130_257, am_gf_42_6, am_gf_42_9, am_gf_42_29, am_gf_42_31, am_ai_47, am_ai_66, am_ai_68, am_nl_i, am_nl_r, am_nl_n, am_nl_l, Option.bind_some, Option.toList_some, Option.toList_none, List.cons_append, List.nil_append, if_true, if_false, Bool.false_eq_true, Int.reduceEq, Int.reduceAdd, ↓reduceIte, ni_pm]
theorem m_layMost {d : Nat} {σ : am_St} {τ : Int64} {T : tS} (hR : RM σ T) (hW : WF T) (hnm : ∀ j, j < s_n T → σ 54 j = s_nm T j) : ∃ σ' : am_St, am_call (d + 3) 130 [.ref 42] σ τ = some (none, σ', τ) ∧ (∀ a, a ≠ 64 → a ≠ 65 → a ≠ 66 → a ≠ 68 → σ' a = σ a) ∧ (∀ r, r < s_n T → ∀ q, q < s_n T → bt (σ' 68 r) q = s_ad T r q) ∧ MO (s_n T) (s_ad T) σ' 0 (2 ^ s_n T) := by
  have h12 := hW.1
  obtain ⟨σ1, v2', a1, hv2, a2, a3⟩ := m_most_1 (d := d) (τ := τ) hW (s_n T) 0 .null σ (by omega) rfl hR hnm (fun r hr => absurd hr (Nat.not_lt_zero r))
  obtain ⟨σ2, b1, b2, b3⟩ := m_most_2 (d := d + 3) (τ := τ) (ad := s_ad T) (v2 := v2') h12 (2 ^ s_n T) 0 σ1 (by omega) (by rw [a2 42 (by decide) (by decide) (by decide)]; exact hR.1) (fun w hw => absurd hw (Nat.not_lt_zero w))
  obtain ⟨σ3, c1, c2, c3⟩ := m_most_p (d := d + 3) (τ := τ) (ad := s_ad T) h12 (s_n T) v2' .null .null .null σ2 (Nat.le_refl _) rfl hv2 (by rw [b2 42 (by decide), a2 42 (by decide) (by decide) (by decide)]; exact hR.1) (fun r hr q hq => by rw [b2 68 (by decide)]; exact a3 r hr q (by omega)) (fun r w hr hw h => by
    have e : r = s_n T := by omega
    subst e
    rw [b3 w hw, Nat.sub_self]
    rfl)
  refine ⟨σ3, ?_, fun a x y z u => by rw [c2 a z, b2 a z, a2 a x y u], fun r hr q hq => by rw [c2 68 (by decide), b2 68 (by decide)]; exact a3 r hr q (by omega), c3⟩
  show am_run (d + 3) 130 0 [.ref 42, .null, .null, .null, .null, .null] [] σ τ = _
  have e0 : nI 0 = 0 := rfl
  have hn2 : σ2 42 6 = nI (s_n T) := by rw [b2 42 (by decide), a2 42 (by decide) (by decide) (by decide)]; exact hR.1
  rw [e0] at a1 b1
  simp (disch := first | assumption | omega | rfl | exact Nat.le_of_ble_eq_true rfl | decide) only [r130_0, r130_1, r130_3, r130_4, r130_7, r130_10, r130_11, r130_14, r130_15, r130_16, r130_17, r130_18, r130_20, r130_21, r130_24, r130_27, r130_28, r130_31, r130_32, r130_33, r130_36, r130_37, r130_40, r130_41, r130_42, r130_43, r130_44, r130_45, r130_46, r130_49, r130_52, r130_53, r130_54, r130_55, r130_58, r130_59, r130_60, r130_61, r130_64, r130_67, r130_70, r130_73, r130_74, r130_76, r130_77, r130_78, r130_81, r130_82, r130_85, r130_86, r130_89, r130_92, r130_93, r130_96, r130_97, r130_98, r130_99, r130_100, r130_101, r130_104, r130_107, r130_108, r130_111, r130_112, r130_113, r130_115, r130_118, r130_119, r130_121, r130_122, r130_123, r130_126, r130_127, r130_130, r130_131, r130_134, r130_137, r130_138, r130_139, r130_140, r130_141, r130_142, r130_143, r130_144, r130_145, r130_146, r130_150, r130_151, r130_154, r130_157, r130_158, r130_161, r130_162, r130_163, r130_166, r130_167, r130_170, r130_171, r130_172, r130_174, r130_175, r130_176, r130_177, r130_178, r130_181, r130_182, r130_184, r130_185, r130_186, r130_187, r130_190, r130_191, r130_192, r130_195, r130_198, r130_199, r130_200, r130_201, r130_202, r130_203, r130_204, r130_206, r130_207, r130_208, r130_209, r130_210, r130_211, r130_213, r130_215, r130_216, r130_219, r130_221, r130_224, r130_225, r130_226, r130_229, r130_232, r130_233, r130_236, r130_239, r130_240, r130_241, r130_242, r130_243, r130_244, r130_245, r130_248, r130_251, r130_254, r130_257, am_gf_42_6, am_gf_42_9, am_gf_42_29, am_gf_42_31, am_ai_47, am_ai_66, am_ai_68, am_nl_i, am_nl_r, am_nl_n, am_nl_l, Option.bind_some, Option.toList_some, Option.toList_none, List.cons_append, List.nil_append, if_true, if_false, Bool.false_eq_true, Int.reduceEq, Int.reduceAdd, ↓reduceIte]
  rw [a1, r130_73]
  simp (disch := first | assumption | omega | rfl | exact Nat.le_of_ble_eq_true rfl | decide) only [r130_0, r130_1, r130_3, r130_4, r130_7, r130_10, r130_11, r130_14, r130_15, r130_16, r130_17, r130_18, r130_20, r130_21, r130_24, r130_27, r130_28, r130_31, r130_32, r130_33, r130_36, r130_37, r130_40, r130_41, r130_42, r130_43, r130_44, r130_45, r130_46, r130_49, r130_52, r130_53, r130_54, r130_55, r130_58, r130_59, r130_60, r130_61, r130_64, r130_67, r130_70, r130_74, r130_76, r130_77, r130_78, r130_81, r130_82, r130_85, r130_86, r130_89, r130_92, r130_93, r130_96, r130_97, r130_98, r130_99, r130_100, r130_101, r130_104, r130_107, r130_108, r130_111, r130_112, r130_113, r130_115, r130_118, r130_119, r130_121, r130_122, r130_123, r130_126, r130_127, r130_130, r130_131, r130_134, r130_137, r130_138, r130_139, r130_140, r130_141, r130_142, r130_143, r130_144, r130_145, r130_146, r130_150, r130_151, r130_154, r130_157, r130_158, r130_161, r130_162, r130_163, r130_166, r130_167, r130_170, r130_171, r130_172, r130_174, r130_175, r130_176, r130_177, r130_178, r130_181, r130_182, r130_184, r130_185, r130_186, r130_187, r130_190, r130_191, r130_192, r130_195, r130_198, r130_199, r130_200, r130_201, r130_202, r130_203, r130_204, r130_206, r130_207, r130_208, r130_209, r130_210, r130_211, r130_213, r130_215, r130_216, r130_219, r130_221, r130_224, r130_225, r130_226, r130_229, r130_232, r130_233, r130_236, r130_239, r130_240, r130_241, r130_242, r130_243, r130_244, r130_245, r130_248, r130_251, r130_254, r130_257, am_gf_42_6, am_gf_42_9, am_gf_42_29, am_gf_42_31, am_ai_47, am_ai_66, am_ai_68, am_nl_i, am_nl_r, am_nl_n, am_nl_l, Option.bind_some, Option.toList_some, Option.toList_none, List.cons_append, List.nil_append, if_true, if_false, Bool.false_eq_true, Int.reduceEq, Int.reduceAdd, ↓reduceIte]
  rw [b1, r130_107]
  simp (disch := first | assumption | omega | rfl | exact Nat.le_of_ble_eq_true rfl | decide) only [r130_0, r130_1, r130_3, r130_4, r130_7, r130_10, r130_11, r130_14, r130_15, r130_16, r130_17, r130_18, r130_20, r130_21, r130_24, r130_27, r130_28, r130_31, r130_32, r130_33, r130_36, r130_37, r130_40, r130_41, r130_42, r130_43, r130_44, r130_45, r130_46, r130_49, r130_52, r130_53, r130_54, r130_55, r130_58, r130_59, r130_60, r130_61, r130_64, r130_67, r130_70, r130_73, r130_74, r130_76, r130_77, r130_78, r130_81, r130_82, r130_85, r130_86, r130_89, r130_92, r130_93, r130_96, r130_97, r130_98, r130_99, r130_100, r130_101, r130_104, r130_108, r130_111, r130_112, r130_113, r130_115, r130_118, r130_119, r130_121, r130_122, r130_123, r130_126, r130_127, r130_130, r130_131, r130_134, r130_137, r130_138, r130_139, r130_140, r130_141, r130_142, r130_143, r130_144, r130_145, r130_146, r130_150, r130_151, r130_154, r130_157, r130_158, r130_161, r130_162, r130_163, r130_166, r130_167, r130_170, r130_171, r130_172, r130_174, r130_175, r130_176, r130_177, r130_178, r130_181, r130_182, r130_184, r130_185, r130_186, r130_187, r130_190, r130_191, r130_192, r130_195, r130_198, r130_199, r130_200, r130_201, r130_202, r130_203, r130_204, r130_206, r130_207, r130_208, r130_209, r130_210, r130_211, r130_213, r130_215, r130_216, r130_219, r130_221, r130_224, r130_225, r130_226, r130_229, r130_232, r130_233, r130_236, r130_239, r130_240, r130_241, r130_242, r130_243, r130_244, r130_245, r130_248, r130_251, r130_254, r130_257, am_gf_42_6, am_gf_42_9, am_gf_42_29, am_gf_42_31, am_ai_47, am_ai_66, am_ai_68, am_nl_i, am_nl_r, am_nl_n, am_nl_l, Option.bind_some, Option.toList_some, Option.toList_none, List.cons_append, List.nil_append, if_true, if_false, Bool.false_eq_true, Int.reduceEq, Int.reduceAdd, ↓reduceIte, hn2]
  exact c1
