/-! the reference: reading a law -/
theorem m_ruleOf {d : Nat} {σ : am_St} {τ : Int64} {c : Int32} : am_call d 85 [.int c] σ τ = some (some (.int (ruS c)), σ, τ) := by
  show am_run d 85 0 [.int c] [] σ τ = _
  unfold ruS
  by_cases h1 : c = 102
  · subst h1
    simp (disch := first | assumption | omega | rfl | exact Nat.le_of_ble_eq_true rfl | decide) only [r85_0, r85_1, r85_3, r85_6, r85_7, r85_10, r85_11, r85_13, r85_16, r85_17, r85_20, r85_21, r85_23, r85_26, r85_27, r85_30, r85_31, r85_33, r85_36, r85_37, r85_40, r85_41, am_nl_i, am_nl_r, am_nl_n, am_nl_l, Option.bind_some, Option.toList_some, Option.toList_none, List.cons_append, List.nil_append, if_true, if_false, Bool.false_eq_true, Int.reduceEq, Int.reduceAdd, ↓reduceIte]
  · by_cases h2 : c = 103
    · subst h2
      simp (disch := first | assumption | omega | rfl | exact Nat.le_of_ble_eq_true rfl | decide) only [r85_0, r85_1, r85_3, r85_6, r85_7, r85_10, r85_11, r85_13, r85_16, r85_17, r85_20, r85_21, r85_23, r85_26, r85_27, r85_30, r85_31, r85_33, r85_36, r85_37, r85_40, r85_41, am_nl_i, am_nl_r, am_nl_n, am_nl_l, Option.bind_some, Option.toList_some, Option.toList_none, List.cons_append, List.nil_append, if_true, if_false, Bool.false_eq_true, Int.reduceEq, Int.reduceAdd, ↓reduceIte, h1, show ¬ (103 : Int32) = 109 by decide]
    · by_cases h3 : c = 109
      · subst h3
        simp (disch := first | assumption | omega | rfl | exact Nat.le_of_ble_eq_true rfl | decide) only [r85_0, r85_1, r85_3, r85_6, r85_7, r85_10, r85_11, r85_13, r85_16, r85_17, r85_20, r85_21, r85_23, r85_26, r85_27, r85_30, r85_31, r85_33, r85_36, r85_37, r85_40, r85_41, am_nl_i, am_nl_r, am_nl_n, am_nl_l, Option.bind_some, Option.toList_some, Option.toList_none, List.cons_append, List.nil_append, if_true, if_false, Bool.false_eq_true, Int.reduceEq, Int.reduceAdd, ↓reduceIte, h1, h2]
      · by_cases h4 : c = 112
        · subst h4
          simp (disch := first | assumption | omega | rfl | exact Nat.le_of_ble_eq_true rfl | decide) only [r85_0, r85_1, r85_3, r85_6, r85_7, r85_10, r85_11, r85_13, r85_16, r85_17, r85_20, r85_21, r85_23, r85_26, r85_27, r85_30, r85_31, r85_33, r85_36, r85_37, r85_40, r85_41, am_nl_i, am_nl_r, am_nl_n, am_nl_l, Option.bind_some, Option.toList_some, Option.toList_none, List.cons_append, List.nil_append, if_true, if_false, Bool.false_eq_true, Int.reduceEq, Int.reduceAdd, ↓reduceIte, h1, h2, h3]
        · simp (disch := first | assumption | omega | rfl | exact Nat.le_of_ble_eq_true rfl | decide) only [r85_0, r85_1, r85_3, r85_6, r85_7, r85_10, r85_11, r85_13, r85_16, r85_17, r85_20, r85_21, r85_23, r85_26, r85_27, r85_30, r85_31, r85_33, r85_36, r85_37, r85_40, r85_41, am_nl_i, am_nl_r, am_nl_n, am_nl_l, Option.bind_some, Option.toList_some, Option.toList_none, List.cons_append, List.nil_append, if_true, if_false, Bool.false_eq_true, Int.reduceEq, Int.reduceAdd, ↓reduceIte, h1, h2, h3, h4]
def rdN (s : Int32) (l : Nat → Int32) (c : Int32) : Nat → Int32 := if s = 1 then upd l 0 (ruS c) else if s = 2 then upd l 1 (c - 48) else if s = 3 then upd l 2 (ruS c) else if s = 5 then upd l 3 (ruS c) else l
theorem m_go {d : Nat} {σ : am_St} {τ : Int64} {s c : Int32} (h5 : σ 42 5 = s) (hs : s = 0 ∨ s = 1 ∨ s = 2 ∨ s = 3 ∨ s = 4 ∨ s = 5) : ∃ σ' : am_St, am_call (d + 1) 86 [.ref 42, .int c] σ τ = some (some (.int (if nxS s c = -1 then 0 else 1)), σ', τ) ∧ (∀ a, a ≠ 42 → a ≠ 45 → σ' a = σ a) ∧ (∀ j, j ≠ 5 → σ' 42 j = σ 42 j) ∧ (¬ nxS s c = -1 → σ' 42 5 = nxS s c ∧ σ' 45 = rdN (nxS s c) (σ 45) c) := by
  have a1 : ∀ (j : Nat) (x y : Int32) a, a ≠ 42 → a ≠ 45 → am_up (am_up σ 45 j x) 42 5 y a = σ a := fun j x y a h1 h2 => by rw [am_up_ne h1, am_up_ne h2]
  have a2 : ∀ (j : Nat) (x y : Int32) i, i ≠ 5 → am_up (am_up σ 45 j x) 42 5 y 42 i = σ 42 i := fun j x y i hi => by rw [am_up_eq, pk_un hi, am_up_ne (by decide)]
  show ∃ σ' : am_St, am_run (d + 1) 86 0 [.ref 42, .int c, .null] [] σ τ = _ ∧ _
  rcases hs with rfl | rfl | rfl | rfl | rfl | rfl
  · refine ⟨am_up (am_up σ 45 0 (ruS c)) 42 5 1, ?_, a1 _ _ _, a2 _ _ _, fun hn => ?_⟩
    · by_cases hr : ruS c = -1
      · have hx : nxS 0 c = -1 := by simp [nxS, hr]
        simp (disch := first | assumption | omega | rfl | exact Nat.le_of_ble_eq_true rfl | decide) only [r86_0, r86_1, r86_4, r86_5, r86_6, r86_9, r86_10, r86_11, r86_14, r86_15, r86_16, r86_19, r86_20, r86_23, r86_24, r86_27, r86_28, r86_31, r86_32, r86_33, r86_36, r86_37, r86_40, r86_41, r86_42, r86_45, r86_46, r86_47, r86_48, r86_49, r86_50, r86_53, r86_54, r86_57, r86_58, r86_61, r86_62, r86_65, r86_66, r86_67, r86_68, r86_69, r86_72, r86_73, r86_74, r86_77, r86_78, r86_80, r86_83, r86_84, r86_85, r86_88, r86_89, r86_90, r86_91, r86_94, r86_95, r86_96, r86_97, r86_100, r86_101, r86_103, r86_104, r86_107, r86_108, r86_111, r86_112, r86_113, r86_114, r86_115, r86_116, r86_119, r86_120, r86_121, r86_124, r86_125, r86_126, r86_129, r86_132, r86_135, r86_138, r86_139, r86_142, r86_143, am_gf_42_3, am_gf_42_5, am_pf_42_5, am_ai_45, am_nl_i, am_nl_r, am_nl_n, am_nl_l, Option.bind_some, Option.toList_some, Option.toList_none, List.cons_append, List.nil_append, if_true, if_false, Bool.false_eq_true, Int.reduceEq, Int.reduceAdd, ↓reduceIte, h5, m_ruleOf, hr, hx, show am_ai false 45 0 = am_ai false 45 (nI 0) from rfl]
        rfl
      · have hx : ¬ nxS 0 c = -1 := by simp [nxS, hr]
        simp (disch := first | assumption | omega | rfl | exact Nat.le_of_ble_eq_true rfl | decide) only [r86_0, r86_1, r86_4, r86_5, r86_6, r86_9, r86_10, r86_11, r86_14, r86_15, r86_16, r86_19, r86_20, r86_23, r86_24, r86_27, r86_28, r86_31, r86_32, r86_33, r86_36, r86_37, r86_40, r86_41, r86_42, r86_45, r86_46, r86_47, r86_48, r86_49, r86_50, r86_53, r86_54, r86_57, r86_58, r86_61, r86_62, r86_65, r86_66, r86_67, r86_68, r86_69, r86_72, r86_73, r86_74, r86_77, r86_78, r86_80, r86_83, r86_84, r86_85, r86_88, r86_89, r86_90, r86_91, r86_94, r86_95, r86_96, r86_97, r86_100, r86_101, r86_103, r86_104, r86_107, r86_108, r86_111, r86_112, r86_113, r86_114, r86_115, r86_116, r86_119, r86_120, r86_121, r86_124, r86_125, r86_126, r86_129, r86_132, r86_135, r86_138, r86_139, r86_142, r86_143, am_gf_42_3, am_gf_42_5, am_pf_42_5, am_ai_45, am_nl_i, am_nl_r, am_nl_n, am_nl_l, Option.bind_some, Option.toList_some, Option.toList_none, List.cons_append, List.nil_append, if_true, if_false, Bool.false_eq_true, Int.reduceEq, Int.reduceAdd, ↓reduceIte, h5, m_ruleOf, hr, hx, show am_ai false 45 0 = am_ai false 45 (nI 0) from rfl]
        rfl
    · have hr : ¬ ruS c = -1 := fun q => hn (by simp [nxS, q])
      have hx : nxS 0 c = 1 := by simp [nxS, hr]
      rw [hx, am_up_eq, pk_us, am_up_ne (by decide), am_up_eq]
      exact ⟨rfl, rfl⟩
  · by_cases ht : c = 116
    · subst ht
      have hx : nxS 1 116 = 4 := by decide
      refine ⟨am_up σ 42 5 4, ?_, fun a h1 h2 => am_up_ne h1, fun j hj => by rw [am_up_eq, pk_un hj], fun _ => ?_⟩
      · rw [hx]
        simp (disch := first | assumption | omega | rfl | exact Nat.le_of_ble_eq_true rfl | decide) only [r86_0, r86_1, r86_4, r86_5, r86_6, r86_9, r86_10, r86_11, r86_14, r86_15, r86_16, r86_19, r86_20, r86_23, r86_24, r86_27, r86_28, r86_31, r86_32, r86_33, r86_36, r86_37, r86_40, r86_41, r86_42, r86_45, r86_46, r86_47, r86_48, r86_49, r86_50, r86_53, r86_54, r86_57, r86_58, r86_61, r86_62, r86_65, r86_66, r86_67, r86_68, r86_69, r86_72, r86_73, r86_74, r86_77, r86_78, r86_80, r86_83, r86_84, r86_85, r86_88, r86_89, r86_90, r86_91, r86_94, r86_95, r86_96, r86_97, r86_100, r86_101, r86_103, r86_104, r86_107, r86_108, r86_111, r86_112, r86_113, r86_114, r86_115, r86_116, r86_119, r86_120, r86_121, r86_124, r86_125, r86_126, r86_129, r86_132, r86_135, r86_138, r86_139, r86_142, r86_143, am_gf_42_3, am_gf_42_5, am_pf_42_5, am_ai_45, am_nl_i, am_nl_r, am_nl_n, am_nl_l, Option.bind_some, Option.toList_some, Option.toList_none, List.cons_append, List.nil_append, if_true, if_false, Bool.false_eq_true, Int.reduceEq, Int.reduceAdd, ↓reduceIte, h5, show ¬ (1 : Int32) = 0 by decide, show ¬ (1 : Int32) = 2 by decide, show ¬ (1 : Int32) = 4 by decide]
        rfl
      · rw [hx, am_up_eq, pk_us, am_up_ne (by decide)]
        exact ⟨rfl, rfl⟩
    · refine ⟨am_up (am_up σ 45 1 (c - 48)) 42 5 2, ?_, a1 _ _ _, a2 _ _ _, fun hn => ?_⟩
      · have hev : inS c 50 53 = evB c := rfl
        by_cases he : evB c = 0
        · have hx : nxS 1 c = -1 := by simp [nxS, he, ht]
          simp (disch := first | assumption | omega | rfl | exact Nat.le_of_ble_eq_true rfl | decide) only [r86_0, r86_1, r86_4, r86_5, r86_6, r86_9, r86_10, r86_11, r86_14, r86_15, r86_16, r86_19, r86_20, r86_23, r86_24, r86_27, r86_28, r86_31, r86_32, r86_33, r86_36, r86_37, r86_40, r86_41, r86_42, r86_45, r86_46, r86_47, r86_48, r86_49, r86_50, r86_53, r86_54, r86_57, r86_58, r86_61, r86_62, r86_65, r86_66, r86_67, r86_68, r86_69, r86_72, r86_73, r86_74, r86_77, r86_78, r86_80, r86_83, r86_84, r86_85, r86_88, r86_89, r86_90, r86_91, r86_94, r86_95, r86_96, r86_97, r86_100, r86_101, r86_103, r86_104, r86_107, r86_108, r86_111, r86_112, r86_113, r86_114, r86_115, r86_116, r86_119, r86_120, r86_121, r86_124, r86_125, r86_126, r86_129, r86_132, r86_135, r86_138, r86_139, r86_142, r86_143, am_gf_42_3, am_gf_42_5, am_pf_42_5, am_ai_45, am_nl_i, am_nl_r, am_nl_n, am_nl_l, Option.bind_some, Option.toList_some, Option.toList_none, List.cons_append, List.nil_append, if_true, if_false, Bool.false_eq_true, Int.reduceEq, Int.reduceAdd, ↓reduceIte, h5, e10, show ¬ (1 : Int32) = 2 by decide, show ¬ (1 : Int32) = 4 by decide, ht, c_in2535, hev, he, hx, show am_ai false 45 1 = am_ai false 45 (nI 1) from rfl]
        · have hx : ¬ nxS 1 c = -1 := by simp [nxS, he]
          simp (disch := first | assumption | omega | rfl | exact Nat.le_of_ble_eq_true rfl | decide) only [r86_0, r86_1, r86_4, r86_5, r86_6, r86_9, r86_10, r86_11, r86_14, r86_15, r86_16, r86_19, r86_20, r86_23, r86_24, r86_27, r86_28, r86_31, r86_32, r86_33, r86_36, r86_37, r86_40, r86_41, r86_42, r86_45, r86_46, r86_47, r86_48, r86_49, r86_50, r86_53, r86_54, r86_57, r86_58, r86_61, r86_62, r86_65, r86_66, r86_67, r86_68, r86_69, r86_72, r86_73, r86_74, r86_77, r86_78, r86_80, r86_83, r86_84, r86_85, r86_88, r86_89, r86_90, r86_91, r86_94, r86_95, r86_96, r86_97, r86_100, r86_101, r86_103, r86_104, r86_107, r86_108, r86_111, r86_112, r86_113, r86_114, r86_115, r86_116, r86_119, r86_120, r86_121, r86_124, r86_125, r86_126, r86_129, r86_132, r86_135, r86_138, r86_139, r86_142, r86_143, am_gf_42_3, am_gf_42_5, am_pf_42_5, am_ai_45, am_nl_i, am_nl_r, am_nl_n, am_nl_l, Option.bind_some, Option.toList_some, Option.toList_none, List.cons_append, List.nil_append, if_true, if_false, Bool.false_eq_true, Int.reduceEq, Int.reduceAdd, ↓reduceIte, h5, e10, show ¬ (1 : Int32) = 2 by decide, show ¬ (1 : Int32) = 4 by decide, ht, c_in2535, hev, he, hx, show am_ai false 45 1 = am_ai false 45 (nI 1) from rfl]
      · have he : ¬ evB c = 0 := fun q => hn (by simp [nxS, q, ht])
        have hx : nxS 1 c = 2 := by simp [nxS, he]
        rw [hx, am_up_eq, pk_us, am_up_ne (by decide), am_up_eq]
        exact ⟨rfl, rfl⟩
  · refine ⟨am_up (am_up σ 45 2 (ruS c)) 42 5 3, ?_, a1 _ _ _, a2 _ _ _, fun hn => ?_⟩
    · by_cases hr : ruS c = -1
      · have hx : nxS 2 c = -1 := by simp [nxS, hr]
        simp (disch := first | assumption | omega | rfl | exact Nat.le_of_ble_eq_true rfl | decide) only [r86_0, r86_1, r86_4, r86_5, r86_6, r86_9, r86_10, r86_11, r86_14, r86_15, r86_16, r86_19, r86_20, r86_23, r86_24, r86_27, r86_28, r86_31, r86_32, r86_33, r86_36, r86_37, r86_40, r86_41, r86_42, r86_45, r86_46, r86_47, r86_48, r86_49, r86_50, r86_53, r86_54, r86_57, r86_58, r86_61, r86_62, r86_65, r86_66, r86_67, r86_68, r86_69, r86_72, r86_73, r86_74, r86_77, r86_78, r86_80, r86_83, r86_84, r86_85, r86_88, r86_89, r86_90, r86_91, r86_94, r86_95, r86_96, r86_97, r86_100, r86_101, r86_103, r86_104, r86_107, r86_108, r86_111, r86_112, r86_113, r86_114, r86_115, r86_116, r86_119, r86_120, r86_121, r86_124, r86_125, r86_126, r86_129, r86_132, r86_135, r86_138, r86_139, r86_142, r86_143, am_gf_42_3, am_gf_42_5, am_pf_42_5, am_ai_45, am_nl_i, am_nl_r, am_nl_n, am_nl_l, Option.bind_some, Option.toList_some, Option.toList_none, List.cons_append, List.nil_append, if_true, if_false, Bool.false_eq_true, Int.reduceEq, Int.reduceAdd, ↓reduceIte, h5, m_ruleOf, hr, hx, show ¬ (2 : Int32) = 0 by decide, show am_ai false 45 2 = am_ai false 45 (nI 2) from rfl]
        rfl
      · have hx : ¬ nxS 2 c = -1 := by simp [nxS, hr]
        simp (disch := first | assumption | omega | rfl | exact Nat.le_of_ble_eq_true rfl | decide) only [r86_0, r86_1, r86_4, r86_5, r86_6, r86_9, r86_10, r86_11, r86_14, r86_15, r86_16, r86_19, r86_20, r86_23, r86_24, r86_27, r86_28, r86_31, r86_32, r86_33, r86_36, r86_37, r86_40, r86_41, r86_42, r86_45, r86_46, r86_47, r86_48, r86_49, r86_50, r86_53, r86_54, r86_57, r86_58, r86_61, r86_62, r86_65, r86_66, r86_67, r86_68, r86_69, r86_72, r86_73, r86_74, r86_77, r86_78, r86_80, r86_83, r86_84, r86_85, r86_88, r86_89, r86_90, r86_91, r86_94, r86_95, r86_96, r86_97, r86_100, r86_101, r86_103, r86_104, r86_107, r86_108, r86_111, r86_112, r86_113, r86_114, r86_115, r86_116, r86_119, r86_120, r86_121, r86_124, r86_125, r86_126, r86_129, r86_132, r86_135, r86_138, r86_139, r86_142, r86_143, am_gf_42_3, am_gf_42_5, am_pf_42_5, am_ai_45, am_nl_i, am_nl_r, am_nl_n, am_nl_l, Option.bind_some, Option.toList_some, Option.toList_none, List.cons_append, List.nil_append, if_true, if_false, Bool.false_eq_true, Int.reduceEq, Int.reduceAdd, ↓reduceIte, h5, m_ruleOf, hr, hx, show ¬ (2 : Int32) = 0 by decide, show am_ai false 45 2 = am_ai false 45 (nI 2) from rfl]
        rfl
    · have hr : ¬ ruS c = -1 := fun q => hn (by simp [nxS, q])
      have hx : nxS 2 c = 3 := by simp [nxS, hr]
      rw [hx, am_up_eq, pk_us, am_up_ne (by decide), am_up_eq]
      exact ⟨rfl, rfl⟩
  · by_cases ht : c = 116
    · subst ht
      have hx : nxS 3 116 = 4 := by decide
      refine ⟨am_up σ 42 5 4, ?_, fun a h1 h2 => am_up_ne h1, fun j hj => by rw [am_up_eq, pk_un hj], fun _ => ?_⟩
      · rw [hx]
        simp (disch := first | assumption | omega | rfl | exact Nat.le_of_ble_eq_true rfl | decide) only [r86_0, r86_1, r86_4, r86_5, r86_6, r86_9, r86_10, r86_11, r86_14, r86_15, r86_16, r86_19, r86_20, r86_23, r86_24, r86_27, r86_28, r86_31, r86_32, r86_33, r86_36, r86_37, r86_40, r86_41, r86_42, r86_45, r86_46, r86_47, r86_48, r86_49, r86_50, r86_53, r86_54, r86_57, r86_58, r86_61, r86_62, r86_65, r86_66, r86_67, r86_68, r86_69, r86_72, r86_73, r86_74, r86_77, r86_78, r86_80, r86_83, r86_84, r86_85, r86_88, r86_89, r86_90, r86_91, r86_94, r86_95, r86_96, r86_97, r86_100, r86_101, r86_103, r86_104, r86_107, r86_108, r86_111, r86_112, r86_113, r86_114, r86_115, r86_116, r86_119, r86_120, r86_121, r86_124, r86_125, r86_126, r86_129, r86_132, r86_135, r86_138, r86_139, r86_142, r86_143, am_gf_42_3, am_gf_42_5, am_pf_42_5, am_ai_45, am_nl_i, am_nl_r, am_nl_n, am_nl_l, Option.bind_some, Option.toList_some, Option.toList_none, List.cons_append, List.nil_append, if_true, if_false, Bool.false_eq_true, Int.reduceEq, Int.reduceAdd, ↓reduceIte, h5, show ¬ (3 : Int32) = 0 by decide, show ¬ (3 : Int32) = 2 by decide, show ¬ (3 : Int32) = 4 by decide, show ¬ (3 : Int32) = 1 by decide]
        rfl
      · rw [hx, am_up_eq, pk_us, am_up_ne (by decide)]
        exact ⟨rfl, rfl⟩
    · have hx : nxS 3 c = -1 := by simp [nxS, ht]
      refine ⟨am_up (am_up σ 45 1 (σ 45 1)) 42 5 2, ?_, a1 _ _ _, a2 _ _ _, fun hn => absurd hx hn⟩
      simp (disch := first | assumption | omega | rfl | exact Nat.le_of_ble_eq_true rfl | decide) only [r86_0, r86_1, r86_4, r86_5, r86_6, r86_9, r86_10, r86_11, r86_14, r86_15, r86_16, r86_19, r86_20, r86_23, r86_24, r86_27, r86_28, r86_31, r86_32, r86_33, r86_36, r86_37, r86_40, r86_41, r86_42, r86_45, r86_46, r86_47, r86_48, r86_49, r86_50, r86_53, r86_54, r86_57, r86_58, r86_61, r86_62, r86_65, r86_66, r86_67, r86_68, r86_69, r86_72, r86_73, r86_74, r86_77, r86_78, r86_80, r86_83, r86_84, r86_85, r86_88, r86_89, r86_90, r86_91, r86_94, r86_95, r86_96, r86_97, r86_100, r86_101, r86_103, r86_104, r86_107, r86_108, r86_111, r86_112, r86_113, r86_114, r86_115, r86_116, r86_119, r86_120, r86_121, r86_124, r86_125, r86_126, r86_129, r86_132, r86_135, r86_138, r86_139, r86_142, r86_143, am_gf_42_3, am_gf_42_5, am_pf_42_5, am_ai_45, am_nl_i, am_nl_r, am_nl_n, am_nl_l, Option.bind_some, Option.toList_some, Option.toList_none, List.cons_append, List.nil_append, if_true, if_false, Bool.false_eq_true, Int.reduceEq, Int.reduceAdd, ↓reduceIte, h5, hx, ht, show ¬ (3 : Int32) = 0 by decide, show ¬ (3 : Int32) = 2 by decide, show ¬ (3 : Int32) = 4 by decide, show ¬ (3 : Int32) = 1 by decide, show am_ai false 45 1 = am_ai false 45 (nI 1) from rfl]
  · refine ⟨am_up (am_up σ 45 3 (ruS c)) 42 5 5, ?_, a1 _ _ _, a2 _ _ _, fun hn => ?_⟩
    · by_cases hr : ruS c = -1
      · have hx : nxS 4 c = -1 := by simp [nxS, hr]
        simp (disch := first | assumption | omega | rfl | exact Nat.le_of_ble_eq_true rfl | decide) only [r86_0, r86_1, r86_4, r86_5, r86_6, r86_9, r86_10, r86_11, r86_14, r86_15, r86_16, r86_19, r86_20, r86_23, r86_24, r86_27, r86_28, r86_31, r86_32, r86_33, r86_36, r86_37, r86_40, r86_41, r86_42, r86_45, r86_46, r86_47, r86_48, r86_49, r86_50, r86_53, r86_54, r86_57, r86_58, r86_61, r86_62, r86_65, r86_66, r86_67, r86_68, r86_69, r86_72, r86_73, r86_74, r86_77, r86_78, r86_80, r86_83, r86_84, r86_85, r86_88, r86_89, r86_90, r86_91, r86_94, r86_95, r86_96, r86_97, r86_100, r86_101, r86_103, r86_104, r86_107, r86_108, r86_111, r86_112, r86_113, r86_114, r86_115, r86_116, r86_119, r86_120, r86_121, r86_124, r86_125, r86_126, r86_129, r86_132, r86_135, r86_138, r86_139, r86_142, r86_143, am_gf_42_3, am_gf_42_5, am_pf_42_5, am_ai_45, am_nl_i, am_nl_r, am_nl_n, am_nl_l, Option.bind_some, Option.toList_some, Option.toList_none, List.cons_append, List.nil_append, if_true, if_false, Bool.false_eq_true, Int.reduceEq, Int.reduceAdd, ↓reduceIte, h5, m_ruleOf, hr, hx, show ¬ (4 : Int32) = 0 by decide, show ¬ (4 : Int32) = 2 by decide, show am_ai false 45 3 = am_ai false 45 (nI 3) from rfl]
        rfl
      · have hx : ¬ nxS 4 c = -1 := by simp [nxS, hr]
        simp (disch := first | assumption | omega | rfl | exact Nat.le_of_ble_eq_true rfl | decide) only [r86_0, r86_1, r86_4, r86_5, r86_6, r86_9, r86_10, r86_11, r86_14, r86_15, r86_16, r86_19, r86_20, r86_23, r86_24, r86_27, r86_28, r86_31, r86_32, r86_33, r86_36, r86_37, r86_40, r86_41, r86_42, r86_45, r86_46, r86_47, r86_48, r86_49, r86_50, r86_53, r86_54, r86_57, r86_58, r86_61, r86_62, r86_65, r86_66, r86_67, r86_68, r86_69, r86_72, r86_73, r86_74, r86_77, r86_78, r86_80, r86_83, r86_84, r86_85, r86_88, r86_89, r86_90, r86_91, r86_94, r86_95, r86_96, r86_97, r86_100, r86_101, r86_103, r86_104, r86_107, r86_108, r86_111, r86_112, r86_113, r86_114, r86_115, r86_116, r86_119, r86_120, r86_121, r86_124, r86_125, r86_126, r86_129, r86_132, r86_135, r86_138, r86_139, r86_142, r86_143, am_gf_42_3, am_gf_42_5, am_pf_42_5, am_ai_45, am_nl_i, am_nl_r, am_nl_n, am_nl_l, Option.bind_some, Option.toList_some, Option.toList_none, List.cons_append, List.nil_append, if_true, if_false, Bool.false_eq_true, Int.reduceEq, Int.reduceAdd, ↓reduceIte, h5, m_ruleOf, hr, hx, show ¬ (4 : Int32) = 0 by decide, show ¬ (4 : Int32) = 2 by decide, show am_ai false 45 3 = am_ai false 45 (nI 3) from rfl]
        rfl
    · have hr : ¬ ruS c = -1 := fun q => hn (by simp [nxS, q])
      have hx : nxS 4 c = 5 := by simp [nxS, hr]
      rw [hx, am_up_eq, pk_us, am_up_ne (by decide), am_up_eq]
      exact ⟨rfl, rfl⟩
  · have hx : nxS 5 c = -1 := by simp [nxS]
    refine ⟨am_up (am_up σ 45 1 (σ 45 1)) 42 5 2, ?_, a1 _ _ _, a2 _ _ _, fun hn => absurd hx hn⟩
    simp (disch := first | assumption | omega | rfl | exact Nat.le_of_ble_eq_true rfl | decide) only [r86_0, r86_1, r86_4, r86_5, r86_6, r86_9, r86_10, r86_11, r86_14, r86_15, r86_16, r86_19, r86_20, r86_23, r86_24, r86_27, r86_28, r86_31, r86_32, r86_33, r86_36, r86_37, r86_40, r86_41, r86_42, r86_45, r86_46, r86_47, r86_48, r86_49, r86_50, r86_53, r86_54, r86_57, r86_58, r86_61, r86_62, r86_65, r86_66, r86_67, r86_68, r86_69, r86_72, r86_73, r86_74, r86_77, r86_78, r86_80, r86_83, r86_84, r86_85, r86_88, r86_89, r86_90, r86_91, r86_94, r86_95, r86_96, r86_97, r86_100, r86_101, r86_103, r86_104, r86_107, r86_108, r86_111, r86_112, r86_113, r86_114, r86_115, r86_116, r86_119, r86_120, r86_121, r86_124, r86_125, r86_126, r86_129, r86_132, r86_135, r86_138, r86_139, r86_142, r86_143, am_gf_42_3, am_gf_42_5, am_pf_42_5, am_ai_45, am_nl_i, am_nl_r, am_nl_n, am_nl_l, Option.bind_some, Option.toList_some, Option.toList_none, List.cons_append, List.nil_append, if_true, if_false, Bool.false_eq_true, Int.reduceEq, Int.reduceAdd, ↓reduceIte, h5, hx, show ¬ (5 : Int32) = 0 by decide, show ¬ (5 : Int32) = 2 by decide, show ¬ (5 : Int32) = 4 by decide, show ¬ (5 : Int32) = 1 by decide, show ¬ (5 : Int32) = 3 by decide, show am_ai false 45 1 = am_ai false 45 (nI 1) from rfl]
theorem st_in {pg : Nat → Int32} {k : Nat} (h : ¬ stF pg k = -1) : stF pg k = 0 ∨ stF pg k = 1 ∨ stF pg k = 2 ∨ stF pg k = 3 ∨ stF pg k = 4 ∨ stF pg k = 5 := by
  cases k with
  | zero => exact Or.inl rfl
  | succ k =>
    rw [stF_s] at h ⊢
    rcases nx_all (stF pg k) (pg k) with q | q
    · exact absurd q h
    · exact Or.inr q
theorem st_m1 {pg : Nat → Int32} {k m : Nat} (h : stF pg k = -1) (hm : k ≤ m) : stF pg m = -1 := by
  induction hm with
  | refl => exact h
  | step _ ih => rw [stF_s, ih]; unfold nxS; simp
theorem rdF_N (pg l0 : Nat → Int32) (k : Nat) : rdF pg l0 (k + 1) = rdN (stF pg (k + 1)) (rdF pg l0 k) (pg k) := rfl
theorem m_faultOf_loop {d n : Nat} {τ : Int64} {pg l0 : Nat → Int32} (h16 : n ≤ 16) : ∀ k i (σ : am_St), i + k = n → σ 42 1 = nI n → (∀ j, j < n → σ 43 j = pg j) → ¬ stF pg i = -1 → σ 42 5 = stF pg i → σ 45 = rdF pg l0 i → ∃ σ' : am_St, am_run (d + 2) 87 28 [.ref 42, .int (nI i)] [] σ τ = some (some (.int (fltF pg k i)), σ', τ) ∧ (∀ a, a ≠ 42 → a ≠ 45 → σ' a = σ a) ∧ (∀ j, j ≠ 5 → σ' 42 j = σ 42 j) ∧ ((stF pg n = -1 ∧ ∃ q, q < n ∧ fltF pg k i = nI q) ∨ (¬ stF pg n = -1 ∧ fltF pg k i = nI n ∧ σ' 42 5 = stF pg n ∧ σ' 45 = rdF pg l0 n)) := by
  intro k
  induction k with
  | zero =>
    intro i σ hi hn hpg hs h5 hrd
    have e : i = n := by omega
    subst e
    refine ⟨σ, ?_, fun _ _ _ => rfl, fun _ _ => rfl, Or.inr ⟨hs, rfl, h5, hrd⟩⟩
    rw [r87_28]
    simp (disch := first | assumption | omega | rfl | exact Nat.le_of_ble_eq_true rfl | decide) only [r87_0, r87_1, r87_2, r87_5, r87_6, r87_9, r87_10, r87_11, r87_12, r87_13, r87_16, r87_17, r87_18, r87_19, r87_20, r87_23, r87_24, r87_25, r87_26, r87_27, r87_29, r87_30, r87_33, r87_36, r87_37, r87_38, r87_41, r87_42, r87_43, r87_46, r87_49, r87_52, r87_55, r87_56, am_gf_42_0, am_gf_42_1, am_gf_42_3, am_pf_42_5, am_ai_43, am_ai_45, am_nl_i, am_nl_r, am_nl_n, am_nl_l, Option.bind_some, Option.toList_some, Option.toList_none, List.cons_append, List.nil_append, if_true, if_false, Bool.false_eq_true, Int.reduceEq, Int.reduceAdd, ↓reduceIte, hn, i_rf]
    rfl
  | succ k ih =>
    intro i σ hi hn hpg hs h5 hrd
    have hc : ¬ n ≤ i := by omega
    have hi16 : i < 16 := by omega
    obtain ⟨σ1, a1, a2, a3, a4⟩ := m_go (d := d) (σ := σ) (τ := τ) (c := pg i) h5 (st_in hs)
    rw [← stF_s] at a1 a4
    unfold fltF
    by_cases hx : stF pg (i + 1) = -1
    · rw [if_pos hx] at a1
      refine ⟨σ1, ?_, a2, a3, Or.inl ⟨st_m1 hx (by omega), i, by omega, if_pos hx⟩⟩
      rw [if_pos hx, r87_28]
      simp (disch := first | assumption | omega | rfl | exact Nat.le_of_ble_eq_true rfl | decide) only [r87_0, r87_1, r87_2, r87_5, r87_6, r87_9, r87_10, r87_11, r87_12, r87_13, r87_16, r87_17, r87_18, r87_19, r87_20, r87_23, r87_24, r87_25, r87_26, r87_27, r87_29, r87_30, r87_33, r87_36, r87_37, r87_38, r87_41, r87_42, r87_43, r87_46, r87_49, r87_52, r87_55, r87_56, am_gf_42_0, am_gf_42_1, am_gf_42_3, am_pf_42_5, am_ai_43, am_ai_45, am_nl_i, am_nl_r, am_nl_n, am_nl_l, Option.bind_some, Option.toList_some, Option.toList_none, List.cons_append, List.nil_append, if_true, if_false, Bool.false_eq_true, Int.reduceEq, Int.reduceAdd, ↓reduceIte, hn, ni_le, hc, hpg i (show i < n by omega), a1]
    · rw [if_neg hx] at a1
      obtain ⟨b1, b2⟩ := a4 hx
      obtain ⟨σ', g1, g2, g3, g4⟩ := ih (i + 1) σ1 (by omega) (by rw [a3 1 (by decide)]; exact hn) (fun j hj => by rw [a2 43 (by decide) (by decide)]; exact hpg j hj) hx b1 (by rw [b2, rdF_N, hrd])
      refine ⟨σ', ?_, fun a x y => by rw [g2 a x y, a2 a x y], fun j hj => by rw [g3 j hj, a3 j hj], by rw [if_neg hx]; exact g4⟩
      rw [if_neg hx, ← g1, r87_28]
      simp (disch := first | assumption | omega | rfl | exact Nat.le_of_ble_eq_true rfl | decide) only [r87_0, r87_1, r87_2, r87_5, r87_6, r87_9, r87_10, r87_11, r87_12, r87_13, r87_16, r87_17, r87_18, r87_19, r87_20, r87_23, r87_24, r87_25, r87_26, r87_27, r87_29, r87_30, r87_33, r87_36, r87_37, r87_38, r87_41, r87_42, r87_43, r87_46, r87_49, r87_52, r87_55, r87_56, am_gf_42_0, am_gf_42_1, am_gf_42_3, am_pf_42_5, am_ai_43, am_ai_45, am_nl_i, am_nl_r, am_nl_n, am_nl_l, Option.bind_some, Option.toList_some, Option.toList_none, List.cons_append, List.nil_append, if_true, if_false, Bool.false_eq_true, Int.reduceEq, Int.reduceAdd, ↓reduceIte, hn, ni_le, hc, hpg i (show i < n by omega), a1, e10, nI_1]
theorem m_faultOf {d n : Nat} {σ : am_St} {τ : Int64} {pg : Nat → Int32} (h16 : n ≤ 16) (hn : σ 42 1 = nI n) (hpg : ∀ j, j < n → σ 43 j = pg j) : ∃ σ' : am_St, am_call (d + 2) 87 [.ref 42] σ τ = some (some (.int (fltF pg n 0)), σ', τ) ∧ (∀ a, a ≠ 42 → a ≠ 45 → σ' a = σ a) ∧ (∀ j, j ≠ 5 → σ' 42 j = σ 42 j) ∧ ((stF pg n = -1 ∧ ∃ q, q < n ∧ fltF pg n 0 = nI q) ∨ (¬ stF pg n = -1 ∧ fltF pg n 0 = nI n ∧ σ' 42 5 = stF pg n ∧ σ' 45 = rdF pg (σ 45) n)) := by
  obtain ⟨σ', g1, g2, g3, g4⟩ := m_faultOf_loop (d := d) (τ := τ) (pg := pg) (l0 := σ 45) h16 n 0 (am_up (am_up (am_up (am_up σ 42 5 0) 45 1 0) 45 2 (-1)) 45 3 1) (by omega) (by rw [am_up_ne (by decide), am_up_ne (by decide), am_up_ne (by decide), am_up_eq, pk_un (by decide)]; exact hn) (fun j hj => by simp (disch := decide) only [am_up_ne]; exact hpg j hj) (show ¬ (0 : Int32) = -1 by decide) (by rw [am_up_ne (by decide), am_up_ne (by decide), am_up_ne (by decide), am_up_eq, pk_us]; rfl) (by simp only [am_up_eq]; rw [am_up_ne (by decide)]; rfl)
  refine ⟨σ', ?_, fun a x y => by rw [g2 a x y, am_up_ne y, am_up_ne y, am_up_ne y, am_up_ne x], fun j hj => by rw [g3 j hj, am_up_ne (by decide), am_up_ne (by decide), am_up_ne (by decide), am_up_eq, pk_un hj], g4⟩
  show am_run (d + 2) 87 0 [.ref 42, .null] [] σ τ = _
  simp (disch := first | assumption | omega | rfl | exact Nat.le_of_ble_eq_true rfl | decide) only [r87_0, r87_1, r87_2, r87_5, r87_6, r87_9, r87_10, r87_11, r87_12, r87_13, r87_16, r87_17, r87_18, r87_19, r87_20, r87_23, r87_24, r87_25, r87_26, r87_27, r87_29, r87_30, r87_33, r87_36, r87_37, r87_38, r87_41, r87_42, r87_43, r87_46, r87_49, r87_52, r87_55, r87_56, am_gf_42_0, am_gf_42_1, am_gf_42_3, am_pf_42_5, am_ai_43, am_ai_45, am_nl_i, am_nl_r, am_nl_n, am_nl_l, Option.bind_some, Option.toList_some, Option.toList_none, List.cons_append, List.nil_append, if_true, if_false, Bool.false_eq_true, Int.reduceEq, Int.reduceAdd, ↓reduceIte, show am_ai false 45 1 = am_ai false 45 (nI 1) from rfl, show am_ai false 45 2 = am_ai false 45 (nI 2) from rfl, show am_ai false 45 3 = am_ai false 45 (nI 3) from rfl]
  exact g1
theorem m_fault {d : Nat} {σ : am_St} {τ : Int64} {T : tS} (hR : RM σ T) (hW : WF T) : ∃ σ' : am_St, am_call (d + 3) 88 [.ref 42] σ τ = some (some (.int (s_flt T)), σ', τ) ∧ RM σ' T ∧ ∀ c, c < 42 → σ' c = σ c := by
  obtain ⟨σ', g1, g2, g3, -⟩ := m_faultOf (d := d) (τ := τ) hW.2.2.2.2.1 hR.2.2.2.1.1 hR.2.2.2.1.2
  refine ⟨σ', ?_, hR.keep ⟨fun c hc => g2 c (by omega) (by omega), g3⟩, fun c hc => g2 c (by omega) (by omega)⟩
  show am_run (d + 3) 88 0 [.ref 42] [] σ τ = _
  simp (disch := first | assumption | omega | rfl | exact Nat.le_of_ble_eq_true rfl | decide) only [r88_0, r88_1, r88_4, am_nl_i, am_nl_r, am_nl_n, am_nl_l, Option.bind_some, Option.toList_some, Option.toList_none, List.cons_append, List.nil_append, if_true, if_false, Bool.false_eq_true, Int.reduceEq, Int.reduceAdd, ↓reduceIte, g1]
  rfl
theorem rd_ind {pg l0 l1 : Nat → Int32} : ∀ k, (∀ j, j < 4 → j ≠ 0 → rdF pg l0 k j = rdF pg l1 k j) ∧ (¬ stF pg k = 0 → ¬ stF pg k = -1 → rdF pg l0 k 0 = rdF pg l1 k 0) := by
  intro k
  induction k with
  | zero =>
    refine ⟨fun j hj h0 => ?_, fun h => absurd rfl h⟩
    unfold rdF upd
    rcases (show j = 1 ∨ j = 2 ∨ j = 3 by omega) with rfl | rfl | rfl <;> rfl
  | succ k ih =>
    obtain ⟨i1, i2⟩ := ih
    have up : ∀ (a b : Nat → Int32) (i : Nat) (x : Int32) (j : Nat), a j = b j → upd a i x j = upd b i x j := fun a b i x j e => by unfold upd; split <;> first | rfl | exact e
    rw [rdF_N, rdF_N]
    have hp : stF pg (k + 1) = 2 ∨ stF pg (k + 1) = 3 ∨ stF pg (k + 1) = 4 ∨ stF pg (k + 1) = 5 → rdF pg l0 k 0 = rdF pg l1 k 0 := by
      intro q
      apply i2
      · intro e
        rw [stF_s, e] at q
        unfold nxS at q
        by_cases hr : ruS (pg k) = -1 <;> simp [hr] at q
      · intro e
        rw [stF_s, e] at q
        unfold nxS at q
        simp at q
    refine ⟨fun j hj h0 => ?_, fun q0 q1 => ?_⟩
    · unfold rdN
      have := i1 j hj h0
      repeat' split
      all_goals first | exact up _ _ _ _ _ this | exact this
    · rcases nx_all (stF pg k) (pg k) with h | h | h | h | h | h
      · exact absurd h q1
      · rw [← stF_s] at h
        unfold rdN
        rw [h, if_pos rfl, if_pos rfl]
        rfl
      · rw [← stF_s] at h
        have := hp (Or.inl h)
        unfold rdN
        rw [h]
        simp only [show ¬ (2 : Int32) = 1 by decide, if_true, if_false]
        exact up _ _ _ _ _ this
      · rw [← stF_s] at h
        have := hp (Or.inr (Or.inl h))
        unfold rdN
        rw [h]
        simp only [show ¬ (3 : Int32) = 1 by decide, show ¬ (3 : Int32) = 2 by decide, if_true, if_false]
        exact up _ _ _ _ _ this
      · rw [← stF_s] at h
        have := hp (Or.inr (Or.inr (Or.inl h)))
        unfold rdN
        rw [h]
        simp only [show ¬ (4 : Int32) = 1 by decide, show ¬ (4 : Int32) = 2 by decide, show ¬ (4 : Int32) = 3 by decide, show ¬ (4 : Int32) = 5 by decide, if_false]
        exact this
      · rw [← stF_s] at h
        have := hp (Or.inr (Or.inr (Or.inr h)))
        unfold rdN
        rw [h]
        simp only [show ¬ (5 : Int32) = 1 by decide, show ¬ (5 : Int32) = 2 by decide, show ¬ (5 : Int32) = 3 by decide, if_true, if_false]
        exact up _ _ _ _ _ this
theorem m_law_copy {d : Nat} {τ : Int64} : ∀ k i (σ : am_St), i + k = 4 → (∀ j, j < i → σ 44 j = σ 45 j) → ∃ σ' : am_St, am_run d 89 25 [.ref 42, .int (nI i)] [] σ τ = am_run d 89 48 [.ref 42, .int (nI 4)] [] σ' τ ∧ (∀ a, a ≠ 44 → σ' a = σ a) ∧ ∀ j, j < 4 → σ' 44 j = σ 45 j := by
  intro k
  induction k with
  | zero =>
    intro i σ hi h
    have e : i = 4 := by omega
    subst e
    refine ⟨σ, ?_, fun _ _ => rfl, h⟩
    rw [r89_25]
    simp (disch := first | assumption | omega | rfl | exact Nat.le_of_ble_eq_true rfl | decide) only [r89_0, r89_1, r89_4, r89_5, r89_8, r89_11, r89_12, r89_15, r89_16, r89_17, r89_20, r89_22, r89_23, r89_24, r89_26, r89_27, r89_30, r89_31, r89_34, r89_35, r89_36, r89_39, r89_40, r89_41, r89_42, r89_45, r89_49, r89_49i, r89_50, r89_53, r89_54, r89_55, r89_58, r89_59, r89_60, r89_63, r89_64, r89_67, am_gf_42_1, am_gf_42_2, am_gf_42_3, am_gf_42_4, am_gf_42_5, am_pf_42_1, am_pf_42_4, am_ai_44, am_ai_45, am_nl_i, am_nl_r, am_nl_n, am_nl_l, Option.bind_some, Option.toList_some, Option.toList_none, List.cons_append, List.nil_append, if_true, if_false, Bool.false_eq_true, Int.reduceEq, Int.reduceAdd, ↓reduceIte, show (4 : Int32) = nI 4 from rfl, i_rf]
  | succ k ih =>
    intro i σ hi h
    have hc : ¬ 4 ≤ i := by omega
    have hi4 : i < 4 := by omega
    obtain ⟨σ', g1, g2, g3⟩ := ih (i + 1) (am_up σ 44 i (σ 45 i)) (by omega) (fun j hj => by
      rw [am_up_eq, am_up_ne (by decide)]
      by_cases e : j = i
      · subst e; rw [pk_us]
      · rw [pk_un e]; exact h j (by omega))
    refine ⟨σ', ?_, fun a x => by rw [g2 a x, am_up_ne x], fun j hj => by rw [g3 j hj, am_up_ne (by decide)]⟩
    rw [← g1, r89_25]
    simp (disch := first | assumption | omega | rfl | exact Nat.le_of_ble_eq_true rfl | decide) only [r89_0, r89_1, r89_4, r89_5, r89_8, r89_11, r89_12, r89_15, r89_16, r89_17, r89_20, r89_22, r89_23, r89_24, r89_26, r89_27, r89_30, r89_31, r89_34, r89_35, r89_36, r89_39, r89_40, r89_41, r89_42, r89_45, r89_49, r89_49i, r89_50, r89_53, r89_54, r89_55, r89_58, r89_59, r89_60, r89_63, r89_64, r89_67, am_gf_42_1, am_gf_42_2, am_gf_42_3, am_gf_42_4, am_gf_42_5, am_pf_42_1, am_pf_42_4, am_ai_44, am_ai_45, am_nl_i, am_nl_r, am_nl_n, am_nl_l, Option.bind_some, Option.toList_some, Option.toList_none, List.cons_append, List.nil_append, if_true, if_false, Bool.false_eq_true, Int.reduceEq, Int.reduceAdd, ↓reduceIte, show (4 : Int32) = nI 4 from rfl, ni_le, hc, nI_1]
theorem m_law {d : Nat} {σ : am_St} {τ : Int64} {T : tS} (hR : RM σ T) (hW : WF T) : ∃ σ' : am_St, am_call (d + 3) 89 [.ref 42] σ τ = some (some (.int (sp_law T).1), σ', τ) ∧ RM σ' (sp_law T).2 ∧ ∀ c, c < 42 → σ' c = σ c := by
  have hp := hR.2.2.2.1.1
  have h16 := hW.2.2.2.2.1
  obtain ⟨σ1, a1, a2, a3, a4⟩ := m_faultOf (d := d) (τ := τ) h16 hp hR.2.2.2.1.2
  have hp1 : σ1 42 1 = nI (s_pl T) := by rw [a3 1 (by decide)]; exact hp
  have hk1 : RM σ1 T := hR.keep ⟨fun c hc => a2 c (by omega) (by omega), a3⟩
  have e2 : ¬ (2 : Int32) = 0 := by decide
  show ∃ σ' : am_St, am_run (d + 3) 89 0 [.ref 42, .null] [] σ τ = _ ∧ _
  unfold sp_law
  rcases a4 with ⟨hs, q, hq, hf⟩ | ⟨hs, hf, h5, h45⟩
  · have hl : isLw (stF (s_pg T) (s_pl T)) = 0 := by rw [hs]; decide
    rw [if_pos hl]
    rw [hf] at a1
    refine ⟨σ1, ?_, hk1, fun c hc => a2 c (by omega) (by omega)⟩
    simp (disch := first | assumption | omega | rfl | exact Nat.le_of_ble_eq_true rfl | decide) only [r89_0, r89_1, r89_4, r89_5, r89_8, r89_11, r89_12, r89_15, r89_16, r89_17, r89_20, r89_22, r89_23, r89_24, r89_26, r89_27, r89_30, r89_31, r89_34, r89_35, r89_36, r89_39, r89_40, r89_41, r89_42, r89_45, r89_48, r89_49, r89_49i, r89_50, r89_53, r89_54, r89_55, r89_58, r89_59, r89_60, r89_63, r89_64, r89_67, am_gf_42_1, am_gf_42_2, am_gf_42_3, am_gf_42_4, am_gf_42_5, am_pf_42_1, am_pf_42_4, am_ai_44, am_ai_45, am_nl_i, am_nl_r, am_nl_n, am_nl_l, Option.bind_some, Option.toList_some, Option.toList_none, List.cons_append, List.nil_append, if_true, if_false, Bool.false_eq_true, Int.reduceEq, Int.reduceAdd, ↓reduceIte, a1, hp1, ni_lt, hq]
  · rw [hf] at a1
    have hlt : ¬ nI (s_pl T) < nI (s_pl T) := Int32.not_lt.mpr (Int32.le_refl _)
    by_cases hl : isLw (stF (s_pg T) (s_pl T)) = 0
    · rw [if_pos hl]
      refine ⟨σ1, ?_, hk1, fun c hc => a2 c (by omega) (by omega)⟩
      have hm : stF (s_pg T) (s_pl T) - stF (s_pg T) (s_pl T) / 2 * 2 = 0 := by
        rcases st_in hs with h | h | h | h | h | h <;> rw [h] at hl ⊢ <;> first | decide | exact absurd hl (by decide)
      simp (disch := first | assumption | omega | rfl | exact Nat.le_of_ble_eq_true rfl | decide) only [r89_0, r89_1, r89_4, r89_5, r89_8, r89_11, r89_12, r89_15, r89_16, r89_17, r89_20, r89_22, r89_23, r89_24, r89_26, r89_27, r89_30, r89_31, r89_34, r89_35, r89_36, r89_39, r89_40, r89_41, r89_42, r89_45, r89_48, r89_49, r89_49i, r89_50, r89_53, r89_54, r89_55, r89_58, r89_59, r89_60, r89_63, r89_64, r89_67, am_gf_42_1, am_gf_42_2, am_gf_42_3, am_gf_42_4, am_gf_42_5, am_pf_42_1, am_pf_42_4, am_ai_44, am_ai_45, am_nl_i, am_nl_r, am_nl_n, am_nl_l, Option.bind_some, Option.toList_some, Option.toList_none, List.cons_append, List.nil_append, if_true, if_false, Bool.false_eq_true, Int.reduceEq, Int.reduceAdd, ↓reduceIte, a1, hp1, hlt, h5, e2, hm]
    · rw [if_neg hl]
      have hm : ¬ stF (s_pg T) (s_pl T) - stF (s_pg T) (s_pl T) / 2 * 2 = 0 := by
        rcases st_in hs with h | h | h | h | h | h <;> rw [h] at hl ⊢ <;> first | decide | exact absurd rfl hl
      have h0 : ¬ stF (s_pg T) (s_pl T) = 0 := fun e => hm (by rw [e]; decide)
      obtain ⟨σ2, b1, b2, b3⟩ := m_law_copy (d := d + 3) (τ := τ) 4 0 σ1 rfl (fun j hj => absurd hj (Nat.not_lt_zero j))
      have hlr : σ2 42 4 = s_lr T := by rw [b2 42 (by decide)]; exact hk1.2.2.2.2.1
      refine ⟨am_up (am_up σ2 42 4 (s_lr T + 1)) 42 1 0, ?_, ?_, fun c hc => by rw [am_up_ne (by omega), am_up_ne (by omega), b2 c (by omega), a2 c (by omega) (by omega)]⟩
      · have go : am_run (d + 3) 89 0 [.ref 42, .null] [] σ τ = am_run (d + 3) 89 25 [.ref 42, .int (nI 0)] [] σ1 τ := by
          simp (disch := first | assumption | omega | rfl | exact Nat.le_of_ble_eq_true rfl | decide) only [r89_0, r89_1, r89_4, r89_5, r89_8, r89_11, r89_12, r89_15, r89_16, r89_17, r89_20, r89_22, r89_23, r89_24, r89_26, r89_27, r89_30, r89_31, r89_34, r89_35, r89_36, r89_39, r89_40, r89_41, r89_42, r89_45, r89_48, r89_49, r89_49i, r89_50, r89_53, r89_54, r89_55, r89_58, r89_59, r89_60, r89_63, r89_64, r89_67, am_gf_42_1, am_gf_42_2, am_gf_42_3, am_gf_42_4, am_gf_42_5, am_pf_42_1, am_pf_42_4, am_ai_44, am_ai_45, am_nl_i, am_nl_r, am_nl_n, am_nl_l, Option.bind_some, Option.toList_some, Option.toList_none, List.cons_append, List.nil_append, if_true, if_false, Bool.false_eq_true, Int.reduceEq, Int.reduceAdd, ↓reduceIte, a1, hp1, hlt, h5, e2, hm]
          rfl
        rw [go, b1, r89_48]
        simp (disch := first | assumption | omega | rfl | exact Nat.le_of_ble_eq_true rfl | decide) only [r89_0, r89_1, r89_4, r89_5, r89_8, r89_11, r89_12, r89_15, r89_16, r89_17, r89_20, r89_22, r89_23, r89_24, r89_25, r89_26, r89_27, r89_30, r89_31, r89_34, r89_35, r89_36, r89_39, r89_40, r89_41, r89_42, r89_45, r89_49, r89_49i, r89_50, r89_53, r89_54, r89_55, r89_58, r89_59, r89_60, r89_63, r89_64, r89_67, am_gf_42_1, am_gf_42_2, am_gf_42_3, am_gf_42_4, am_gf_42_5, am_pf_42_1, am_pf_42_4, am_ai_44, am_ai_45, am_nl_i, am_nl_r, am_nl_n, am_nl_l, Option.bind_some, Option.toList_some, Option.toList_none, List.cons_append, List.nil_append, if_true, if_false, Bool.false_eq_true, Int.reduceEq, Int.reduceAdd, ↓reduceIte, hlr, am_up_eq, pk_un, pk_us]
      · obtain ⟨r1, r2, r3, r4, r5, r6, r7, r8⟩ := hk1
        have k42 : ∀ j, j ≠ 1 → j ≠ 4 → am_up (am_up σ2 42 4 (s_lr T + 1)) 42 1 0 42 j = σ1 42 j := fun j x y => by rw [am_up_eq, pk_un x, am_up_eq, pk_un y, b2 42 (by decide)]
        have k : ∀ c, c ≠ 42 → c ≠ 44 → am_up (am_up σ2 42 4 (s_lr T + 1)) 42 1 0 c = σ1 c := fun c x y => by rw [am_up_ne x, am_up_ne x, b2 c y]
        refine ⟨by rw [k42 6 (by decide) (by decide)]; exact r1, fun i hi => ?_, fun j hj => ?_, ⟨by rw [am_up_eq, pk_us]; rfl, fun j hj => absurd hj (Nat.not_lt_zero j)⟩, by rw [am_up_eq, pk_un (by decide), am_up_eq, pk_us]; rfl, by rw [k42 21 (by decide) (by decide)]; exact r6, by rw [k42 7 (by decide) (by decide)]; exact r7, ?_⟩
        · rw [k 46 (by decide) (by decide), k 47 (by decide) (by decide), k 48 (by decide) (by decide), k 49 (by decide) (by decide), k 50 (by decide) (by decide), k 51 (by decide) (by decide), k 52 (by decide) (by decide), k 53 (by decide) (by decide)]
          exact r2 i hi
        · rw [am_up_ne (by decide), am_up_ne (by decide), b3 j hj, h45]
          obtain ⟨i1, i2⟩ := rd_ind (pg := s_pg T) (l0 := σ 45) (l1 := s_lw T) (s_pl T)
          show rdF (s_pg T) (σ 45) (s_pl T) j = rdF (s_pg T) (s_lw T) (s_pl T) j
          by_cases e : j = 0
          · subst e; exact i2 h0 hs
          · exact i1 j hj e
        · rw [k42 32 (by decide) (by decide), k42 33 (by decide) (by decide), k 69 (by decide) (by decide)]
          exact r8
theorem m_lawTold {d : Nat} {σ : am_St} {τ : Int64} {T : tS} {x : Int32} (hR : RM σ T) : am_call (d + 1) 90 [.ref 42, .int x] σ τ = some (some (.int (sp_lawTold T x)), σ, τ) := by
  show am_run (d + 1) 90 0 [.ref 42, .int x] [] σ τ = _
  have hl := hR.2.2.1
  by_cases h1 : x < 0
  · have hi : inS x 0 3 = 0 := by unfold inS; rw [if_pos h1]
    have hx : sp_lawTold T x = -102 := by
      unfold sp_lawTold
      rw [if_neg (fun e => by subst e; exact absurd h1 (by decide)), if_neg (fun e => by subst e; exact absurd h1 (by decide)), if_neg (fun e => by subst e; exact absurd h1 (by decide)), if_neg (fun e => by subst e; exact absurd h1 (by decide))]
    simp (disch := first | assumption | omega | rfl | exact Nat.le_of_ble_eq_true rfl | decide) only [r90_0, r90_1, r90_2, r90_3, r90_6, r90_9, r90_12, r90_13, r90_16, r90_17, r90_18, r90_21, r90_23, am_gf_42_2, am_ai_44, am_nl_i, am_nl_r, am_nl_n, am_nl_l, Option.bind_some, Option.toList_some, Option.toList_none, List.cons_append, List.nil_append, if_true, if_false, Bool.false_eq_true, Int.reduceEq, Int.reduceAdd, ↓reduceIte, c_in03, hi, hx]
  · by_cases h2 : 3 < x
    · have hi : inS x 0 3 = 0 := by unfold inS; rw [if_neg h1, if_pos h2]
      have hx : sp_lawTold T x = -102 := by
        unfold sp_lawTold
        rw [if_neg (fun e => by subst e; exact absurd h2 (by decide)), if_neg (fun e => by subst e; exact absurd h2 (by decide)), if_neg (fun e => by subst e; exact absurd h2 (by decide)), if_neg (fun e => by subst e; exact absurd h2 (by decide))]
      simp (disch := first | assumption | omega | rfl | exact Nat.le_of_ble_eq_true rfl | decide) only [r90_0, r90_1, r90_2, r90_3, r90_6, r90_9, r90_12, r90_13, r90_16, r90_17, r90_18, r90_21, r90_23, am_gf_42_2, am_ai_44, am_nl_i, am_nl_r, am_nl_n, am_nl_l, Option.bind_some, Option.toList_some, Option.toList_none, List.cons_append, List.nil_append, if_true, if_false, Bool.false_eq_true, Int.reduceEq, Int.reduceAdd, ↓reduceIte, c_in03, hi, hx]
    · have hi : inS x 0 3 = 1 := by unfold inS; rw [if_neg h1, if_neg h2]
      obtain ⟨k, hk, rfl⟩ := nI_of2 (M := 3) (n := 3) (by decide) h1 (Int32.not_lt.mp h2)
      have hk4 : k < 4 := by omega
      rw [lt_k hk4]
      simp (disch := first | assumption | omega | rfl | exact Nat.le_of_ble_eq_true rfl | decide) only [r90_0, r90_1, r90_2, r90_3, r90_6, r90_9, r90_12, r90_13, r90_16, r90_17, r90_18, r90_21, r90_23, am_gf_42_2, am_ai_44, am_nl_i, am_nl_r, am_nl_n, am_nl_l, Option.bind_some, Option.toList_some, Option.toList_none, List.cons_append, List.nil_append, if_true, if_false, Bool.false_eq_true, Int.reduceEq, Int.reduceAdd, ↓reduceIte, c_in03, hi, e10, hl k hk4]
