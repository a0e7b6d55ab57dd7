/-! OtherName$Folk: nearestLiving, add -/
def nlF (al dst : Nat → Int32) (p : Nat) : Nat → Int32 × Int32
  | 0 => (-1, -1)
  | i + 1 => if ¬ (if i = p then (-1 : Int32) else if al i = 0 then -1 else dst i) = -1 ∧ ((nlF al dst p i).2 = -1 ∨ (if i = p then (-1 : Int32) else if al i = 0 then -1 else dst i) < (nlF al dst p i).2) then (nI i, (if i = p then (-1 : Int32) else if al i = 0 then -1 else dst i)) else nlF al dst p i
theorem c_nearestLiving_loop {d n p : Nat} {σ : am_St} {τ : Int64} (hn : σ 4 0 = nI n) (h12 : n ≤ 12) (hp : p < 12) : ∀ k i (v5 : Value), i + k = n → am_run (d + 2) 19 7 [.ref 4, .int (nI p), .int (nlF (σ 13) (fun b => dstF (fun j => σ 14 (p * 12 + j)) (fun j => σ 14 (b * 12 + j)) n) p i).1, .int (nlF (σ 13) (fun b => dstF (fun j => σ 14 (p * 12 + j)) (fun j => σ 14 (b * 12 + j)) n) p i).2, .int (nI i), v5] [] σ τ = some (some (.int (nlF (σ 13) (fun b => dstF (fun j => σ 14 (p * 12 + j)) (fun j => σ 14 (b * 12 + j)) n) p n).1), σ, τ) := by
  intro k
  induction k with
  | zero =>
    intro i v5 hi
    have e : i = n := by omega
    subst e
    rw [r19_7]
    simp (disch := first | assumption | omega | rfl | exact Nat.le_of_ble_eq_true rfl | decide) only [r19_0, r19_1, r19_2, r19_3, r19_4, r19_5, r19_9, r19_10, r19_13, r19_16, r19_18, r19_19, r19_22, r19_23, r19_26, r19_28, r19_29, r19_32, r19_33, r19_34, r19_36, r19_39, r19_42, r19_43, r19_45, r19_47, r19_48, r19_51, r19_52, r19_53, r19_56, r19_58, r19_59, r19_62, r19_64, r19_65, r19_67, r19_68, r19_71, r19_74, r19_75, am_gf_4_0, am_gf_4_9, am_ai_13, am_nl_i, am_nl_r, am_nl_n, am_nl_l, Option.bind_some, Option.toList_some, Option.toList_none, List.cons_append, List.nil_append, if_true, if_false, Bool.false_eq_true, Int.reduceEq, Int.reduceAdd, ↓reduceIte, hn, ni_le, Nat.le_refl, if_true]
  | succ k ih =>
    intro i v5 hi
    have hc : ¬ n ≤ i := by omega
    have hx : i < 12 := by omega
    rw [← ih (i + 1) (.int (if i = p then (-1 : Int32) else if σ 13 i = 0 then -1 else dstF (fun j => σ 14 (p * 12 + j)) (fun j => σ 14 (i * 12 + j)) n)) (by omega), r19_7]
    simp (disch := first | assumption | omega | rfl | exact Nat.le_of_ble_eq_true rfl | decide) only [r19_0, r19_1, r19_2, r19_3, r19_4, r19_5, r19_9, r19_10, r19_13, r19_16, r19_18, r19_19, r19_22, r19_23, r19_26, r19_28, r19_29, r19_32, r19_33, r19_34, r19_36, r19_39, r19_42, r19_43, r19_45, r19_47, r19_48, r19_51, r19_52, r19_53, r19_56, r19_58, r19_59, r19_62, r19_64, r19_65, r19_67, r19_68, r19_71, r19_74, r19_75, am_gf_4_0, am_gf_4_9, am_ai_13, am_nl_i, am_nl_r, am_nl_n, am_nl_l, Option.bind_some, Option.toList_some, Option.toList_none, List.cons_append, List.nil_append, if_true, if_false, Bool.false_eq_true, Int.reduceEq, Int.reduceAdd, ↓reduceIte, hn, ni_le, hc, if_false, nI_1, nlF, ni_eq, c_distance hn h12 hp hx]
    generalize nlF (σ 13) (fun b => dstF (fun j => σ 14 (p * 12 + j)) (fun j => σ 14 (b * 12 + j)) n) p i = L
    generalize dstF (fun j => σ 14 (p * 12 + j)) (fun j => σ 14 (i * 12 + j)) n = x
    by_cases h1 : i = p
    · simp [h1]
    · by_cases h2 : σ 13 i = 0
      · simp [h1, h2]
      · by_cases h3 : x = -1
        · simp [h1, h2, h3]
        · by_cases h4 : L.2 = -1
          · simp [h1, h2, h3, h4]
          · by_cases h5 : L.2 ≤ x
            · have h6 : ¬ x < L.2 := Int32.not_lt.mpr h5
              simp [h1, h2, h3, h4, h5, h6]
            · have h6 : x < L.2 := Int32.not_le.mp h5
              simp [h1, h2, h3, h4, h5, h6]
theorem c_nearestLiving {d n p : Nat} {σ : am_St} {τ : Int64} (hn : σ 4 0 = nI n) (h12 : n ≤ 12) (hp : p < 12) : am_call (d + 2) 19 [.ref 4, .int (nI p)] σ τ = some (some (.int (nlF (σ 13) (fun b => dstF (fun j => σ 14 (p * 12 + j)) (fun j => σ 14 (b * 12 + j)) n) p n).1), σ, τ) := by
  show am_run (d + 2) 19 0 [.ref 4, .int (nI p), .null, .null, .null, .null] [] σ τ = _
  simp (disch := first | assumption | omega | rfl | exact Nat.le_of_ble_eq_true rfl | decide) only [r19_0, r19_1, r19_2, r19_3, r19_4, r19_5, r19_9, r19_10, r19_13, r19_16, r19_18, r19_19, r19_22, r19_23, r19_26, r19_28, r19_29, r19_32, r19_33, r19_34, r19_36, r19_39, r19_42, r19_43, r19_45, r19_47, r19_48, r19_51, r19_52, r19_53, r19_56, r19_58, r19_59, r19_62, r19_64, r19_65, r19_67, r19_68, r19_71, r19_74, r19_75, am_gf_4_0, am_gf_4_9, am_ai_13, am_nl_i, am_nl_r, am_nl_n, am_nl_l, Option.bind_some, Option.toList_some, Option.toList_none, List.cons_append, List.nil_append, if_true, if_false, Bool.false_eq_true, Int.reduceEq, Int.reduceAdd, ↓reduceIte]
  exact c_nearestLiving_loop hn h12 hp n 0 _ (by omega)
theorem vn_0 : vp_nar .boolean 0 = 0 := by decide
theorem vn_1 : vp_nar .boolean 1 = 1 := by decide
/-- the new person's row of steps, of one without parents -/
theorem c_add_loopF {d n : Nat} {τ : Int64} {v1 v2 v3 v4 v5 : Value} (h12 : n < 12) : ∀ k j (σ : am_St), j + k = 12 → isF (σ 7 n) (σ 8 n) = 1 → ∃ σ' : am_St, am_run (d + 1) 15 161 [.ref 4, v1, v2, v3, v4, v5, .int (nI n), .int (nI j)] [] σ τ = am_run (d + 1) 15 229 [.ref 4, v1, v2, v3, v4, v5, .int (nI n), .int (nI 12)] [] σ' τ ∧ (∀ c, c ≠ 14 → σ' c = σ c) ∧ ∀ a, σ' 14 a = if n * 12 + j ≤ a ∧ a < n * 12 + 12 then -1 else σ 14 a := by
  intro k
  induction k with
  | zero =>
    intro j σ hj hF
    have e : j = 12 := by omega
    subst e
    refine ⟨σ, ?_, fun _ _ => rfl, fun a => by rw [if_neg (by omega)]⟩
    rw [r15_161]
    simp (disch := first | assumption | omega | rfl | exact Nat.le_of_ble_eq_true rfl | decide) only [r15_0, r15_1, r15_4, r15_6, r15_8, r15_10, r15_13, r15_15, r15_16, r15_17, r15_20, r15_22, r15_23, r15_24, r15_25, r15_28, r15_30, r15_31, r15_32, r15_33, r15_36, r15_38, r15_39, r15_41, r15_44, r15_45, r15_48, r15_49, r15_50, r15_51, r15_54, r15_56, r15_57, r15_60, r15_62, r15_63, r15_66, r15_67, r15_70, r15_73, r15_74, r15_75, r15_76, r15_79, r15_81, r15_83, r15_84, r15_85, r15_88, r15_90, r15_92, r15_93, r15_94, r15_97, r15_99, r15_100, r15_101, r15_102, r15_105, r15_107, r15_108, r15_109, r15_110, r15_113, r15_115, r15_116, r15_118, r15_121, r15_124, r15_125, r15_128, r15_129, r15_130, r15_133, r15_134, r15_137, r15_139, r15_140, r15_141, r15_142, r15_145, r15_146, r15_149, r15_151, r15_152, r15_153, r15_156, r15_157, r15_158, r15_159, r15_163, r15_165, r15_168, r15_169, r15_172, r15_174, r15_176, r15_177, r15_179, r15_180, r15_181, r15_183, r15_186, r15_189, r15_190, r15_193, r15_194, r15_195, r15_198, r15_200, r15_201, r15_203, r15_206, r15_207, r15_208, r15_211, r15_213, r15_214, r15_216, r15_219, r15_222, r15_223, r15_226, r15_230, r15_233, r15_235, r15_237, r15_238, r15_240, r15_241, r15_242, r15_243, r15_244, r15_244i, r15_245, r15_248, r15_249, r15_250, r15_253, r15_255, am_gf_4_0, am_gf_4_1, am_gf_4_2, am_gf_4_3, am_gf_4_4, am_gf_4_5, am_gf_4_6, am_gf_4_7, am_gf_4_8, am_gf_4_9, am_gf_4_10, am_pf_4_0, am_ai_5, am_ai_6, am_ai_7, am_ai_8, am_ai_9, am_ai_10, am_ai_11, am_ai_12, am_ai_13, am_ai_14, am_nl_i, am_nl_r, am_nl_n, am_nl_l, Option.bind_some, Option.toList_some, Option.toList_none, List.cons_append, List.nil_append, if_true, if_false, Bool.false_eq_true, Int.reduceEq, Int.reduceAdd, ↓reduceIte, show (12 : Int32) = nI 12 from rfl, ni_le, Nat.le_refl, if_true]
  | succ k ih =>
    intro j σ hj hF
    have hc : ¬ 12 ≤ j := by omega
    have hx : n * 12 + j < 144 := by omega
    have e10 : ¬ (1 : Int32) = 0 := by decide
    obtain ⟨σ', h1, h2, h3⟩ := ih (j + 1) (am_up σ 14 (n * 12 + j) (-1)) (by omega) (by rw [am_up_ne (by decide), am_up_ne (by decide)]; exact hF)
    refine ⟨σ', ?_, fun c hc => by rw [h2 c hc, am_up_ne hc], fun a => ?_⟩
    · rw [← h1, r15_161]
      simp (disch := first | assumption | omega | rfl | exact Nat.le_of_ble_eq_true rfl | decide) only [r15_0, r15_1, r15_4, r15_6, r15_8, r15_10, r15_13, r15_15, r15_16, r15_17, r15_20, r15_22, r15_23, r15_24, r15_25, r15_28, r15_30, r15_31, r15_32, r15_33, r15_36, r15_38, r15_39, r15_41, r15_44, r15_45, r15_48, r15_49, r15_50, r15_51, r15_54, r15_56, r15_57, r15_60, r15_62, r15_63, r15_66, r15_67, r15_70, r15_73, r15_74, r15_75, r15_76, r15_79, r15_81, r15_83, r15_84, r15_85, r15_88, r15_90, r15_92, r15_93, r15_94, r15_97, r15_99, r15_100, r15_101, r15_102, r15_105, r15_107, r15_108, r15_109, r15_110, r15_113, r15_115, r15_116, r15_118, r15_121, r15_124, r15_125, r15_128, r15_129, r15_130, r15_133, r15_134, r15_137, r15_139, r15_140, r15_141, r15_142, r15_145, r15_146, r15_149, r15_151, r15_152, r15_153, r15_156, r15_157, r15_158, r15_159, r15_163, r15_165, r15_168, r15_169, r15_172, r15_174, r15_176, r15_177, r15_179, r15_180, r15_181, r15_183, r15_186, r15_189, r15_190, r15_193, r15_194, r15_195, r15_198, r15_200, r15_201, r15_203, r15_206, r15_207, r15_208, r15_211, r15_213, r15_214, r15_216, r15_219, r15_222, r15_223, r15_226, r15_230, r15_233, r15_235, r15_237, r15_238, r15_240, r15_241, r15_242, r15_243, r15_244, r15_244i, r15_245, r15_248, r15_249, r15_250, r15_253, r15_255, am_gf_4_0, am_gf_4_1, am_gf_4_2, am_gf_4_3, am_gf_4_4, am_gf_4_5, am_gf_4_6, am_gf_4_7, am_gf_4_8, am_gf_4_9, am_gf_4_10, am_pf_4_0, am_ai_5, am_ai_6, am_ai_7, am_ai_8, am_ai_9, am_ai_10, am_ai_11, am_ai_12, am_ai_13, am_ai_14, am_nl_i, am_nl_r, am_nl_n, am_nl_l, Option.bind_some, Option.toList_some, Option.toList_none, List.cons_append, List.nil_append, if_true, if_false, Bool.false_eq_true, Int.reduceEq, Int.reduceAdd, ↓reduceIte, pk_mul, nI_add, show (12 : Int32) = nI 12 from rfl, ni_le, hc, if_false, c_isFounder h12, hF, e10, nI_1]
    · rw [h3 a, am_up_eq]
      unfold upd
      by_cases h : a = n * 12 + j
      · subst h; simp; omega
      · simp only [h, if_false]; split <;> split <;> first | rfl | omega
/-- the new person's row of steps, of one with parents -/
theorem c_add_loopC {d n f g : Nat} {τ : Int64} {u : Nat → Int32} {v1 v2 v3 v4 v5 : Value} (h12 : n < 12) (hf : f < n) (hg : g < n) : ∀ k j (σ : am_St), j + k = 12 → σ 7 n = nI f → σ 8 n = nI g → (∀ a, a < n * 12 → σ 14 a = u a) → ∃ σ' : am_St, am_run (d + 1) 15 161 [.ref 4, v1, v2, v3, v4, v5, .int (nI n), .int (nI j)] [] σ τ = am_run (d + 1) 15 229 [.ref 4, v1, v2, v3, v4, v5, .int (nI n), .int (nI 12)] [] σ' τ ∧ (∀ c, c ≠ 14 → σ' c = σ c) ∧ ∀ a, σ' 14 a = if n * 12 + j ≤ a ∧ a < n * 12 + 12 then oneM (u (f * 12 + (a - n * 12))) (u (g * 12 + (a - n * 12))) else σ 14 a := by
  intro k
  induction k with
  | zero =>
    intro j σ hj hF hG hu
    have e : j = 12 := by omega
    subst e
    refine ⟨σ, ?_, fun _ _ => rfl, fun a => by rw [if_neg (by omega)]⟩
    rw [r15_161]
    simp (disch := first | assumption | omega | rfl | exact Nat.le_of_ble_eq_true rfl | decide) only [r15_0, r15_1, r15_4, r15_6, r15_8, r15_10, r15_13, r15_15, r15_16, r15_17, r15_20, r15_22, r15_23, r15_24, r15_25, r15_28, r15_30, r15_31, r15_32, r15_33, r15_36, r15_38, r15_39, r15_41, r15_44, r15_45, r15_48, r15_49, r15_50, r15_51, r15_54, r15_56, r15_57, r15_60, r15_62, r15_63, r15_66, r15_67, r15_70, r15_73, r15_74, r15_75, r15_76, r15_79, r15_81, r15_83, r15_84, r15_85, r15_88, r15_90, r15_92, r15_93, r15_94, r15_97, r15_99, r15_100, r15_101, r15_102, r15_105, r15_107, r15_108, r15_109, r15_110, r15_113, r15_115, r15_116, r15_118, r15_121, r15_124, r15_125, r15_128, r15_129, r15_130, r15_133, r15_134, r15_137, r15_139, r15_140, r15_141, r15_142, r15_145, r15_146, r15_149, r15_151, r15_152, r15_153, r15_156, r15_157, r15_158, r15_159, r15_163, r15_165, r15_168, r15_169, r15_172, r15_174, r15_176, r15_177, r15_179, r15_180, r15_181, r15_183, r15_186, r15_189, r15_190, r15_193, r15_194, r15_195, r15_198, r15_200, r15_201, r15_203, r15_206, r15_207, r15_208, r15_211, r15_213, r15_214, r15_216, r15_219, r15_222, r15_223, r15_226, r15_230, r15_233, r15_235, r15_237, r15_238, r15_240, r15_241, r15_242, r15_243, r15_244, r15_244i, r15_245, r15_248, r15_249, r15_250, r15_253, r15_255, am_gf_4_0, am_gf_4_1, am_gf_4_2, am_gf_4_3, am_gf_4_4, am_gf_4_5, am_gf_4_6, am_gf_4_7, am_gf_4_8, am_gf_4_9, am_gf_4_10, am_pf_4_0, am_ai_5, am_ai_6, am_ai_7, am_ai_8, am_ai_9, am_ai_10, am_ai_11, am_ai_12, am_ai_13, am_ai_14, am_nl_i, am_nl_r, am_nl_n, am_nl_l, Option.bind_some, Option.toList_some, Option.toList_none, List.cons_append, List.nil_append, if_true, if_false, Bool.false_eq_true, Int.reduceEq, Int.reduceAdd, ↓reduceIte, show (12 : Int32) = nI 12 from rfl, ni_le, Nat.le_refl, if_true]
  | succ k ih =>
    intro j σ hj hF hG hu
    have hc : ¬ 12 ≤ j := by omega
    have hj12 : j < 12 := by omega
    have hx : n * 12 + j < 144 := by omega
    have hf12 : f < 12 := by omega
    have hg12 : g < 12 := by omega
    have hF0 : isF (nI f) (nI g) = 0 := by
      unfold isF
      rw [if_neg (nI_pos (by omega)), if_pos (nI_pos' (by omega))]
    obtain ⟨σ', h1, h2, h3⟩ := ih (j + 1) (am_up σ 14 (n * 12 + j) (oneM (u (f * 12 + j)) (u (g * 12 + j)))) (by omega) (by rw [am_up_ne (by decide)]; exact hF) (by rw [am_up_ne (by decide)]; exact hG) (fun a ha => by rw [am_up_eq]; unfold upd; rw [if_neg (by omega)]; exact hu a ha)
    refine ⟨σ', ?_, fun c hc => by rw [h2 c hc, am_up_ne hc], fun a => ?_⟩
    · rw [← h1, r15_161]
      simp (disch := first | assumption | omega | rfl | exact Nat.le_of_ble_eq_true rfl | decide) only [r15_0, r15_1, r15_4, r15_6, r15_8, r15_10, r15_13, r15_15, r15_16, r15_17, r15_20, r15_22, r15_23, r15_24, r15_25, r15_28, r15_30, r15_31, r15_32, r15_33, r15_36, r15_38, r15_39, r15_41, r15_44, r15_45, r15_48, r15_49, r15_50, r15_51, r15_54, r15_56, r15_57, r15_60, r15_62, r15_63, r15_66, r15_67, r15_70, r15_73, r15_74, r15_75, r15_76, r15_79, r15_81, r15_83, r15_84, r15_85, r15_88, r15_90, r15_92, r15_93, r15_94, r15_97, r15_99, r15_100, r15_101, r15_102, r15_105, r15_107, r15_108, r15_109, r15_110, r15_113, r15_115, r15_116, r15_118, r15_121, r15_124, r15_125, r15_128, r15_129, r15_130, r15_133, r15_134, r15_137, r15_139, r15_140, r15_141, r15_142, r15_145, r15_146, r15_149, r15_151, r15_152, r15_153, r15_156, r15_157, r15_158, r15_159, r15_163, r15_165, r15_168, r15_169, r15_172, r15_174, r15_176, r15_177, r15_179, r15_180, r15_181, r15_183, r15_186, r15_189, r15_190, r15_193, r15_194, r15_195, r15_198, r15_200, r15_201, r15_203, r15_206, r15_207, r15_208, r15_211, r15_213, r15_214, r15_216, r15_219, r15_222, r15_223, r15_226, r15_230, r15_233, r15_235, r15_237, r15_238, r15_240, r15_241, r15_242, r15_243, r15_244, r15_244i, r15_245, r15_248, r15_249, r15_250, r15_253, r15_255, am_gf_4_0, am_gf_4_1, am_gf_4_2, am_gf_4_3, am_gf_4_4, am_gf_4_5, am_gf_4_6, am_gf_4_7, am_gf_4_8, am_gf_4_9, am_gf_4_10, am_pf_4_0, am_ai_5, am_ai_6, am_ai_7, am_ai_8, am_ai_9, am_ai_10, am_ai_11, am_ai_12, am_ai_13, am_ai_14, am_nl_i, am_nl_r, am_nl_n, am_nl_l, Option.bind_some, Option.toList_some, Option.toList_none, List.cons_append, List.nil_append, if_true, if_false, Bool.false_eq_true, Int.reduceEq, Int.reduceAdd, ↓reduceIte, pk_mul, nI_add, show (12 : Int32) = nI 12 from rfl, ni_le, hc, if_false, if_true, c_isFounder h12, hF, hG, hF0, nI_1, c_steps hf12 hj12, c_steps hg12 hj12, c_oneMore]
      rw [hu (f * 12 + j) (by omega), hu (g * 12 + j) (by omega)]
    · rw [h3 a, am_up_eq]
      unfold upd
      by_cases h : a = n * 12 + j
      · subst h
        rw [if_neg (by omega), if_pos rfl, if_pos (by omega), show n * 12 + j - n * 12 = j by omega]
      · simp only [h, if_false]; split <;> split <;> first | rfl | omega
/-- add: one without parents -/
theorem c_addF {d n : Nat} {σ : am_St} {τ : Int64} {k s z : Int32} (hn : σ 4 0 = nI n) (h12 : n < 12) : ∃ σ' : am_St, am_call (d + 1) 15 [.ref 4, .int k, .int s, .int (-1), .int (-1), .int z] σ τ = some (some (.int (nI n)), σ', τ) ∧ (∀ c, (c < 4 ∨ 14 < c) → σ' c = σ c) ∧ σ' 4 0 = nI (n + 1) ∧ (∀ j, j ≠ 0 → σ' 4 j = σ 4 j) ∧ σ' 5 = upd (σ 5) n k ∧ σ' 6 = upd (σ 6) n s ∧ σ' 7 = upd (σ 7) n (-1) ∧ σ' 8 = upd (σ 8) n (-1) ∧ σ' 9 = upd (σ 9) n 0 ∧ σ' 10 = upd (σ 10) n 0 ∧ σ' 11 = upd (σ 11) n z ∧ σ' 12 = upd (σ 12) n (-1) ∧ σ' 13 = upd (σ 13) n 1 ∧ ∀ a, σ' 14 a = if a = n * 12 + n then 0 else if n * 12 ≤ a ∧ a < n * 12 + 12 then -1 else σ 14 a := by
  have hc : ¬ 12 ≤ n := by omega
  have e1 : ¬ (-1 : Int32) = -2 := by decide
  have e2 : isF (-1) (-1) = 1 := by decide
  have e3 : ¬ (1 : Int32) = 0 := by decide
  have hx : n * 12 + n < 144 := by omega
  obtain ⟨σ', h1, h2, h3⟩ := c_add_loopF (d := d) (τ := τ) (v1 := .int k) (v2 := .int s) (v3 := .int (-1)) (v4 := .int (-1)) (v5 := .int z) h12 12 0 (am_up (am_up (am_up (am_up (am_up (am_up (am_up (am_up (am_up σ 5 n k) 6 n s) 9 n 0) 7 n (-1)) 8 n (-1)) 11 n z) 12 n (-1)) 13 n 1) 10 n 0) rfl (by
    simp (disch := decide) only [am_up_ne, am_up_eq, pk_us]
    exact e2)
  refine ⟨am_up (am_up σ' 14 (n * 12 + n) 0) 4 0 (nI (n + 1)), ?_, ?_⟩
  · show am_run (d + 1) 15 0 [.ref 4, .int k, .int s, .int (-1), .int (-1), .int z, .null, .null] [] σ τ = _
    simp (disch := first | assumption | omega | rfl | exact Nat.le_of_ble_eq_true rfl | decide) only [r15_0, r15_1, r15_4, r15_6, r15_8, r15_10, r15_13, r15_15, r15_16, r15_17, r15_20, r15_22, r15_23, r15_24, r15_25, r15_28, r15_30, r15_31, r15_32, r15_33, r15_36, r15_38, r15_39, r15_41, r15_44, r15_45, r15_48, r15_49, r15_50, r15_51, r15_54, r15_56, r15_57, r15_60, r15_62, r15_63, r15_66, r15_67, r15_70, r15_73, r15_74, r15_75, r15_76, r15_79, r15_81, r15_83, r15_84, r15_85, r15_88, r15_90, r15_92, r15_93, r15_94, r15_97, r15_99, r15_100, r15_101, r15_102, r15_105, r15_107, r15_108, r15_109, r15_110, r15_113, r15_115, r15_116, r15_118, r15_121, r15_124, r15_125, r15_128, r15_129, r15_130, r15_133, r15_134, r15_137, r15_139, r15_140, r15_141, r15_142, r15_145, r15_146, r15_149, r15_151, r15_152, r15_153, r15_156, r15_157, r15_158, r15_159, r15_163, r15_165, r15_168, r15_169, r15_172, r15_174, r15_176, r15_177, r15_179, r15_180, r15_181, r15_183, r15_186, r15_189, r15_190, r15_193, r15_194, r15_195, r15_198, r15_200, r15_201, r15_203, r15_206, r15_207, r15_208, r15_211, r15_213, r15_214, r15_216, r15_219, r15_222, r15_223, r15_226, r15_230, r15_233, r15_235, r15_237, r15_238, r15_240, r15_241, r15_242, r15_243, r15_244, r15_244i, r15_245, r15_248, r15_249, r15_250, r15_253, r15_255, am_gf_4_0, am_gf_4_1, am_gf_4_2, am_gf_4_3, am_gf_4_4, am_gf_4_5, am_gf_4_6, am_gf_4_7, am_gf_4_8, am_gf_4_9, am_gf_4_10, am_pf_4_0, am_ai_5, am_ai_6, am_ai_7, am_ai_8, am_ai_9, am_ai_10, am_ai_11, am_ai_12, am_ai_13, am_ai_14, am_nl_i, am_nl_r, am_nl_n, am_nl_l, Option.bind_some, Option.toList_some, Option.toList_none, List.cons_append, List.nil_append, if_true, if_false, Bool.false_eq_true, Int.reduceEq, Int.reduceAdd, ↓reduceIte, hn, show (12 : Int32) = nI 12 from rfl, ni_lt, h12, if_true, e1, if_false, vn_0, vn_1, am_up_eq, pk_us, c_isFounder h12, am_up_ne, e2, e3]
    refine Eq.trans h1 ?_
    have h4 : σ' 4 0 = nI n := by rw [h2 4 (by decide)]; simp (disch := decide) only [am_up_ne]; exact hn
    rw [r15_229]
    simp (disch := first | assumption | omega | rfl | exact Nat.le_of_ble_eq_true rfl | decide) only [r15_0, r15_1, r15_4, r15_6, r15_8, r15_10, r15_13, r15_15, r15_16, r15_17, r15_20, r15_22, r15_23, r15_24, r15_25, r15_28, r15_30, r15_31, r15_32, r15_33, r15_36, r15_38, r15_39, r15_41, r15_44, r15_45, r15_48, r15_49, r15_50, r15_51, r15_54, r15_56, r15_57, r15_60, r15_62, r15_63, r15_66, r15_67, r15_70, r15_73, r15_74, r15_75, r15_76, r15_79, r15_81, r15_83, r15_84, r15_85, r15_88, r15_90, r15_92, r15_93, r15_94, r15_97, r15_99, r15_100, r15_101, r15_102, r15_105, r15_107, r15_108, r15_109, r15_110, r15_113, r15_115, r15_116, r15_118, r15_121, r15_124, r15_125, r15_128, r15_129, r15_130, r15_133, r15_134, r15_137, r15_139, r15_140, r15_141, r15_142, r15_145, r15_146, r15_149, r15_151, r15_152, r15_153, r15_156, r15_157, r15_158, r15_159, r15_163, r15_165, r15_168, r15_169, r15_172, r15_174, r15_176, r15_177, r15_179, r15_180, r15_181, r15_183, r15_186, r15_189, r15_190, r15_193, r15_194, r15_195, r15_198, r15_200, r15_201, r15_203, r15_206, r15_207, r15_208, r15_211, r15_213, r15_214, r15_216, r15_219, r15_222, r15_223, r15_226, r15_230, r15_233, r15_235, r15_237, r15_238, r15_240, r15_241, r15_242, r15_243, r15_244, r15_244i, r15_245, r15_248, r15_249, r15_250, r15_253, r15_255, am_gf_4_0, am_gf_4_1, am_gf_4_2, am_gf_4_3, am_gf_4_4, am_gf_4_5, am_gf_4_6, am_gf_4_7, am_gf_4_8, am_gf_4_9, am_gf_4_10, am_pf_4_0, am_ai_5, am_ai_6, am_ai_7, am_ai_8, am_ai_9, am_ai_10, am_ai_11, am_ai_12, am_ai_13, am_ai_14, am_nl_i, am_nl_r, am_nl_n, am_nl_l, Option.bind_some, Option.toList_some, Option.toList_none, List.cons_append, List.nil_append, if_true, if_false, Bool.false_eq_true, Int.reduceEq, Int.reduceAdd, ↓reduceIte, show (12 : Int32) = nI 12 from rfl, pk_mul, nI_add, am_up_ne, h4, nI_1]
  · refine ⟨fun c hc => ?_, ?_, fun j hj => ?_, ?_, ?_, ?_, ?_, ?_, ?_, ?_, ?_, ?_, fun a => ?_⟩
    · rw [am_up_ne (by omega), am_up_ne (by omega), h2 c (by omega), am_up_ne (by omega), am_up_ne (by omega), am_up_ne (by omega), am_up_ne (by omega), am_up_ne (by omega), am_up_ne (by omega), am_up_ne (by omega), am_up_ne (by omega), am_up_ne (by omega)]
    · rw [am_up_eq, pk_us]
    · rw [am_up_eq, pk_un hj, am_up_ne (by decide), h2 4 (by decide)]
      simp (disch := decide) only [am_up_ne]
    all_goals try (rw [am_up_ne (by decide), am_up_ne (by decide), h2 _ (by decide)]; simp (disch := decide) only [am_up_ne, am_up_eq])
    rw [am_up_ne (by decide), am_up_eq]
    unfold upd
    split
    · rfl
    · rw [h3 a]
      simp (disch := decide) only [am_up_ne, Nat.add_zero]
theorem ff_congr {P Q : Nat → Bool} : ∀ k i, (∀ j, i ≤ j → j < i + k → P j = Q j) → ff P k i = ff Q k i := by
  intro k
  induction k with
  | zero => intro i _; rfl
  | succ k ih =>
    intro i h
    unfold ff
    rw [h i (by omega) (by omega), ih (i + 1) (fun j h1 h2 => h j (by omega) (by omega))]
/-- add: one with parents; b tells whether it is a gap -/
theorem c_addC {d n f g : Nat} {σ : am_St} {τ : Int64} {k s x b : Int32} (hn : σ 4 0 = nI n) (h12 : n < 12) (hf : f < n) (hg : g < n) (hx : (x = nI f ∧ b = 0) ∨ (x = -2 ∧ b = 1 ∧ ff (fun j => decide (σ 6 j = 0)) n 0 = nI f)) : ∃ σ' : am_St, am_call (d + 1) 15 [.ref 4, .int k, .int s, .int x, .int (nI g), .int 0] σ τ = some (some (.int (nI n)), σ', τ) ∧ (∀ c, (c < 4 ∨ 14 < c) → σ' c = σ c) ∧ σ' 4 0 = nI (n + 1) ∧ (∀ j, j ≠ 0 → σ' 4 j = σ 4 j) ∧ σ' 5 = upd (σ 5) n k ∧ σ' 6 = upd (σ 6) n s ∧ σ' 7 = upd (σ 7) n (nI f) ∧ σ' 8 = upd (σ 8) n (nI g) ∧ σ' 9 = upd (σ 9) n b ∧ σ' 10 = upd (σ 10) n (1 + if σ 10 f < σ 10 g then σ 10 g else σ 10 f) ∧ σ' 11 = upd (σ 11) n 0 ∧ σ' 12 = upd (σ 12) n (-1) ∧ σ' 13 = upd (σ 13) n 1 ∧ ∀ a, σ' 14 a = if a = n * 12 + n then 0 else if n * 12 ≤ a ∧ a < n * 12 + 12 then oneM (σ 14 (f * 12 + (a - n * 12))) (σ 14 (g * 12 + (a - n * 12))) else σ 14 a := by
  have hc : ¬ 12 ≤ n := by omega
  have hf12 : f < 12 := by omega
  have hg12 : g < 12 := by omega
  have e2 : isF (nI f) (nI g) = 0 := by
    unfold isF
    rw [if_neg (nI_pos (by omega)), if_pos (nI_pos' (by omega))]
  have e3 : ¬ (1 : Int32) = 0 := by decide
  have hxx : n * 12 + n < 144 := by omega
  have hfn : f ≠ n := by omega
  have hgn : g ≠ n := by omega
  have hfi : ¬ nI f = -2 := by
    intro q
    have := congrArg Int32.toInt q
    rw [nI_toInt (by omega)] at this
    have h2 : (-2 : Int32).toInt = -2 := by decide
    rw [h2] at this
    omega
  obtain ⟨σ', h1, h2, h3⟩ := c_add_loopC (d := d) (τ := τ) (u := σ 14) (v1 := .int k) (v2 := .int s) (v3 := .int x) (v4 := .int (nI g)) (v5 := .int 0) h12 hf hg 12 0 (am_up (am_up (am_up (am_up (am_up (am_up (am_up (am_up (am_up σ 5 n k) 6 n s) 9 n b) 7 n (nI f)) 8 n (nI g)) 11 n 0) 12 n (-1)) 13 n 1) 10 n (1 + if σ 10 f < σ 10 g then σ 10 g else σ 10 f)) rfl (by simp (disch := decide) only [am_up_ne, am_up_eq, pk_us]) (by simp (disch := decide) only [am_up_ne, am_up_eq, pk_us]) (fun a _ => by simp (disch := decide) only [am_up_ne])
  refine ⟨am_up (am_up σ' 14 (n * 12 + n) 0) 4 0 (nI (n + 1)), ?_, ?_⟩
  · show am_run (d + 1) 15 0 [.ref 4, .int k, .int s, .int x, .int (nI g), .int 0, .null, .null] [] σ τ = _
    have tail : am_run (d + 1) 15 161 [.ref 4, .int k, .int s, .int x, .int (nI g), .int 0, .int (nI n), .int (nI 0)] [] (am_up (am_up (am_up (am_up (am_up (am_up (am_up (am_up (am_up σ 5 n k) 6 n s) 9 n b) 7 n (nI f)) 8 n (nI g)) 11 n 0) 12 n (-1)) 13 n 1) 10 n (1 + if σ 10 f < σ 10 g then σ 10 g else σ 10 f)) τ = some (some (.int (nI n)), am_up (am_up σ' 14 (n * 12 + n) 0) 4 0 (nI (n + 1)), τ) := by
      rw [h1]
      have h4 : σ' 4 0 = nI n := by rw [h2 4 (by decide)]; simp (disch := decide) only [am_up_ne]; exact hn
      rw [r15_229]
      simp (disch := first | assumption | omega | rfl | exact Nat.le_of_ble_eq_true rfl | decide) only [r15_0, r15_1, r15_4, r15_6, r15_8, r15_10, r15_13, r15_15, r15_16, r15_17, r15_20, r15_22, r15_23, r15_24, r15_25, r15_28, r15_30, r15_31, r15_32, r15_33, r15_36, r15_38, r15_39, r15_41, r15_44, r15_45, r15_48, r15_49, r15_50, r15_51, r15_54, r15_56, r15_57, r15_60, r15_62, r15_63, r15_66, r15_67, r15_70, r15_73, r15_74, r15_75, r15_76, r15_79, r15_81, r15_83, r15_84, r15_85, r15_88, r15_90, r15_92, r15_93, r15_94, r15_97, r15_99, r15_100, r15_101, r15_102, r15_105, r15_107, r15_108, r15_109, r15_110, r15_113, r15_115, r15_116, r15_118, r15_121, r15_124, r15_125, r15_128, r15_129, r15_130, r15_133, r15_134, r15_137, r15_139, r15_140, r15_141, r15_142, r15_145, r15_146, r15_149, r15_151, r15_152, r15_153, r15_156, r15_157, r15_158, r15_159, r15_163, r15_165, r15_168, r15_169, r15_172, r15_174, r15_176, r15_177, r15_179, r15_180, r15_181, r15_183, r15_186, r15_189, r15_190, r15_193, r15_194, r15_195, r15_198, r15_200, r15_201, r15_203, r15_206, r15_207, r15_208, r15_211, r15_213, r15_214, r15_216, r15_219, r15_222, r15_223, r15_226, r15_230, r15_233, r15_235, r15_237, r15_238, r15_240, r15_241, r15_242, r15_243, r15_244, r15_244i, r15_245, r15_248, r15_249, r15_250, r15_253, r15_255, am_gf_4_0, am_gf_4_1, am_gf_4_2, am_gf_4_3, am_gf_4_4, am_gf_4_5, am_gf_4_6, am_gf_4_7, am_gf_4_8, am_gf_4_9, am_gf_4_10, am_pf_4_0, am_ai_5, am_ai_6, am_ai_7, am_ai_8, am_ai_9, am_ai_10, am_ai_11, am_ai_12, am_ai_13, am_ai_14, am_nl_i, am_nl_r, am_nl_n, am_nl_l, Option.bind_some, Option.toList_some, Option.toList_none, List.cons_append, List.nil_append, if_true, if_false, Bool.false_eq_true, Int.reduceEq, Int.reduceAdd, ↓reduceIte, show (12 : Int32) = nI 12 from rfl, pk_mul, nI_add, am_up_ne, h4, nI_1]
    rcases hx with ⟨rfl, rfl⟩ | ⟨rfl, rfl, hm⟩
    · simp (disch := first | assumption | omega | rfl | exact Nat.le_of_ble_eq_true rfl | decide) only [r15_0, r15_1, r15_4, r15_6, r15_8, r15_10, r15_13, r15_15, r15_16, r15_17, r15_20, r15_22, r15_23, r15_24, r15_25, r15_28, r15_30, r15_31, r15_32, r15_33, r15_36, r15_38, r15_39, r15_41, r15_44, r15_45, r15_48, r15_49, r15_50, r15_51, r15_54, r15_56, r15_57, r15_60, r15_62, r15_63, r15_66, r15_67, r15_70, r15_73, r15_74, r15_75, r15_76, r15_79, r15_81, r15_83, r15_84, r15_85, r15_88, r15_90, r15_92, r15_93, r15_94, r15_97, r15_99, r15_100, r15_101, r15_102, r15_105, r15_107, r15_108, r15_109, r15_110, r15_113, r15_115, r15_116, r15_118, r15_121, r15_124, r15_125, r15_128, r15_129, r15_130, r15_133, r15_134, r15_137, r15_139, r15_140, r15_141, r15_142, r15_145, r15_146, r15_149, r15_151, r15_152, r15_153, r15_156, r15_157, r15_158, r15_159, r15_163, r15_165, r15_168, r15_169, r15_172, r15_174, r15_176, r15_177, r15_179, r15_180, r15_181, r15_183, r15_186, r15_189, r15_190, r15_193, r15_194, r15_195, r15_198, r15_200, r15_201, r15_203, r15_206, r15_207, r15_208, r15_211, r15_213, r15_214, r15_216, r15_219, r15_222, r15_223, r15_226, r15_230, r15_233, r15_235, r15_237, r15_238, r15_240, r15_241, r15_242, r15_243, r15_244, r15_244i, r15_245, r15_248, r15_249, r15_250, r15_253, r15_255, am_gf_4_0, am_gf_4_1, am_gf_4_2, am_gf_4_3, am_gf_4_4, am_gf_4_5, am_gf_4_6, am_gf_4_7, am_gf_4_8, am_gf_4_9, am_gf_4_10, am_pf_4_0, am_ai_5, am_ai_6, am_ai_7, am_ai_8, am_ai_9, am_ai_10, am_ai_11, am_ai_12, am_ai_13, am_ai_14, am_nl_i, am_nl_r, am_nl_n, am_nl_l, Option.bind_some, Option.toList_some, Option.toList_none, List.cons_append, List.nil_append, if_true, if_false, Bool.false_eq_true, Int.reduceEq, Int.reduceAdd, ↓reduceIte, hn, show (12 : Int32) = nI 12 from rfl, ni_lt, h12, if_true, hfi, if_false, vn_0, vn_1, am_up_eq, pk_us, pk_un, c_isFounder h12, am_up_ne, e2, e3]
      exact tail
    · have hn2 : am_up (am_up (am_up σ 5 n k) 6 n s) 9 n 1 4 0 = nI n := by simp (disch := decide) only [am_up_ne]; exact hn
      have hm2 : ff (fun j => decide (am_up (am_up (am_up σ 5 n k) 6 n s) 9 n 1 6 j = 0)) n 0 = nI f := by
        rw [← hm]
        apply ff_congr
        intro j _ hj
        simp (disch := decide) only [am_up_ne, am_up_eq]
        rw [pk_un (by omega)]
      have hcl : am_call d 10 [.ref 4] (am_up (am_up (am_up σ 5 n k) 6 n s) 9 n 1) τ = some (some (.int (nI f)), am_up (am_up (am_up σ 5 n k) 6 n s) 9 n 1, τ) := by
        rw [c_leastMan hn2 (Nat.le_of_lt h12), hm2]
      simp (disch := first | assumption | omega | rfl | exact Nat.le_of_ble_eq_true rfl | decide) only [r15_0, r15_1, r15_4, r15_6, r15_8, r15_10, r15_13, r15_15, r15_16, r15_17, r15_20, r15_22, r15_23, r15_24, r15_25, r15_28, r15_30, r15_31, r15_32, r15_33, r15_36, r15_38, r15_39, r15_41, r15_44, r15_45, r15_48, r15_49, r15_50, r15_51, r15_54, r15_56, r15_57, r15_60, r15_62, r15_63, r15_66, r15_67, r15_70, r15_73, r15_74, r15_75, r15_76, r15_79, r15_81, r15_83, r15_84, r15_85, r15_88, r15_90, r15_92, r15_93, r15_94, r15_97, r15_99, r15_100, r15_101, r15_102, r15_105, r15_107, r15_108, r15_109, r15_110, r15_113, r15_115, r15_116, r15_118, r15_121, r15_124, r15_125, r15_128, r15_129, r15_130, r15_133, r15_134, r15_137, r15_139, r15_140, r15_141, r15_142, r15_145, r15_146, r15_149, r15_151, r15_152, r15_153, r15_156, r15_157, r15_158, r15_159, r15_163, r15_165, r15_168, r15_169, r15_172, r15_174, r15_176, r15_177, r15_179, r15_180, r15_181, r15_183, r15_186, r15_189, r15_190, r15_193, r15_194, r15_195, r15_198, r15_200, r15_201, r15_203, r15_206, r15_207, r15_208, r15_211, r15_213, r15_214, r15_216, r15_219, r15_222, r15_223, r15_226, r15_230, r15_233, r15_235, r15_237, r15_238, r15_240, r15_241, r15_242, r15_243, r15_244, r15_244i, r15_245, r15_248, r15_249, r15_250, r15_253, r15_255, am_gf_4_0, am_gf_4_1, am_gf_4_2, am_gf_4_3, am_gf_4_4, am_gf_4_5, am_gf_4_6, am_gf_4_7, am_gf_4_8, am_gf_4_9, am_gf_4_10, am_pf_4_0, am_ai_5, am_ai_6, am_ai_7, am_ai_8, am_ai_9, am_ai_10, am_ai_11, am_ai_12, am_ai_13, am_ai_14, am_nl_i, am_nl_r, am_nl_n, am_nl_l, Option.bind_some, Option.toList_some, Option.toList_none, List.cons_append, List.nil_append, if_true, if_false, Bool.false_eq_true, Int.reduceEq, Int.reduceAdd, ↓reduceIte, hn, show (12 : Int32) = nI 12 from rfl, ni_lt, h12, if_true, if_false, vn_0, vn_1, am_up_eq, pk_us, pk_un, hcl, c_isFounder h12, am_up_ne, e2, e3]
      exact tail
  · refine ⟨fun c hc => ?_, ?_, fun j hj => ?_, ?_, ?_, ?_, ?_, ?_, ?_, ?_, ?_, ?_, fun a => ?_⟩
    · rw [am_up_ne (by omega), am_up_ne (by omega), h2 c (by omega), am_up_ne (by omega), am_up_ne (by omega), am_up_ne (by omega), am_up_ne (by omega), am_up_ne (by omega), am_up_ne (by omega), am_up_ne (by omega), am_up_ne (by omega), am_up_ne (by omega)]
    · rw [am_up_eq, pk_us]
    · rw [am_up_eq, pk_un hj, am_up_ne (by decide), h2 4 (by decide)]
      simp (disch := decide) only [am_up_ne]
    all_goals try (rw [am_up_ne (by decide), am_up_ne (by decide), h2 _ (by decide)]; simp (disch := decide) only [am_up_ne, am_up_eq])
    rw [am_up_ne (by decide), am_up_eq]
    unfold upd
    split
    · rfl
    · rw [h3 a]
      simp (disch := decide) only [am_up_ne, Nat.add_zero]
