/-! OtherName: person, on -/
theorem kdB_01 (k : Int32) : kdB k = 0 ∨ kdB k = 1 := by
  unfold kdB
  repeat' split
  all_goals simp
theorem nmB_01 (k : Int32) : nmB k = 0 ∨ nmB k = 1 := by
  unfold nmB
  repeat' split
  all_goals simp
theorem c_person_pre {d : Nat} {σ : am_St} {τ : Int64} {T : tS} {k s f m z : Int32} (hR : RC σ T) (hW : WF T) (hk : ¬ kdB k = 0) (hs : s = 0 ∨ s = 1) : am_run (d + 5) 56 0 [.ref 0, .int k, .int s, .int f, .int m, .int z, .null, .null, .null] [] σ τ = am_run (d + 5) 56 91 [.ref 0, .int k, .int s, .int f, .int m, .int z, .int (if k = 1 ∨ k = 3 then 1 else 0), .int (if pfB T k f m = true then 1 else 0), .null] [] σ τ := by
  have one : am_run (d + 5) 56 0 [.ref 0, .int k, .int s, .int f, .int m, .int z, .null, .null, .null] [] σ τ = am_run (d + 5) 56 19 [.ref 0, .int k, .int s, .int f, .int m, .int z, .null, .null, .null] [] σ τ := by
    rcases hs with rfl | rfl
    · simp (disch := first | assumption | omega | rfl | exact Nat.le_of_ble_eq_true rfl | decide) only [r56_0, r56_1, r56_4, r56_7, r56_8, r56_11, r56_12, r56_13, r56_16, r56_18, r56_20, r56_21, r56_24, r56_25, r56_26, r56_29, r56_30, r56_33, r56_34, r56_36, r56_38, r56_41, r56_42, r56_43, r56_46, r56_48, r56_49, r56_52, r56_53, r56_56, r56_57, r56_60, r56_61, r56_64, r56_65, r56_68, r56_71, r56_72, r56_75, r56_77, r56_78, r56_81, r56_84, r56_85, r56_88, r56_89, r56_91, r56_93, r56_96, r56_98, r56_99, r56_101, r56_104, r56_106, r56_109, r56_112, r56_115, r56_117, r56_120, r56_122, r56_123, r56_124, r56_127, r56_130, r56_132, r56_135, r56_136, r56_138, r56_141, r56_142, r56_145, r56_148, r56_149, r56_152, r56_154, r56_155, r56_156, r56_159, r56_160, r56_161, r56_162, r56_164, r56_166, r56_169, r56_171, r56_172, r56_175, r56_177, am_gf_4_0, am_gf_0_2, am_nl_i, am_nl_r, am_nl_n, am_nl_l, Option.bind_some, Option.toList_some, Option.toList_none, List.cons_append, List.nil_append, if_true, if_false, Bool.false_eq_true, Int.reduceEq, Int.reduceAdd, ↓reduceIte, c_isKind, hk]
    · simp (disch := first | assumption | omega | rfl | exact Nat.le_of_ble_eq_true rfl | decide) only [r56_0, r56_1, r56_4, r56_7, r56_8, r56_11, r56_12, r56_13, r56_16, r56_18, r56_20, r56_21, r56_24, r56_25, r56_26, r56_29, r56_30, r56_33, r56_34, r56_36, r56_38, r56_41, r56_42, r56_43, r56_46, r56_48, r56_49, r56_52, r56_53, r56_56, r56_57, r56_60, r56_61, r56_64, r56_65, r56_68, r56_71, r56_72, r56_75, r56_77, r56_78, r56_81, r56_84, r56_85, r56_88, r56_89, r56_91, r56_93, r56_96, r56_98, r56_99, r56_101, r56_104, r56_106, r56_109, r56_112, r56_115, r56_117, r56_120, r56_122, r56_123, r56_124, r56_127, r56_130, r56_132, r56_135, r56_136, r56_138, r56_141, r56_142, r56_145, r56_148, r56_149, r56_152, r56_154, r56_155, r56_156, r56_159, r56_160, r56_161, r56_162, r56_164, r56_166, r56_169, r56_171, r56_172, r56_175, r56_177, am_gf_4_0, am_gf_0_2, am_nl_i, am_nl_r, am_nl_n, am_nl_l, Option.bind_some, Option.toList_some, Option.toList_none, List.cons_append, List.nil_append, if_true, if_false, Bool.false_eq_true, Int.reduceEq, Int.reduceAdd, ↓reduceIte, c_isKind, hk, e10]
  have two : am_run (d + 5) 56 19 [.ref 0, .int k, .int s, .int f, .int m, .int z, .null, .null, .null] [] σ τ = am_run (d + 5) 56 36 [.ref 0, .int k, .int s, .int f, .int m, .int z, .int (if k = 1 ∨ k = 3 then 1 else 0), .null, .null] [] σ τ := by
    rw [r56_19]
    by_cases h1 : k = 1
    · subst h1
      simp (disch := first | assumption | omega | rfl | exact Nat.le_of_ble_eq_true rfl | decide) only [r56_0, r56_1, r56_4, r56_7, r56_8, r56_11, r56_12, r56_13, r56_16, r56_18, r56_20, r56_21, r56_24, r56_25, r56_26, r56_29, r56_30, r56_33, r56_34, r56_38, r56_41, r56_42, r56_43, r56_46, r56_48, r56_49, r56_52, r56_53, r56_56, r56_57, r56_60, r56_61, r56_64, r56_65, r56_68, r56_71, r56_72, r56_75, r56_77, r56_78, r56_81, r56_84, r56_85, r56_88, r56_89, r56_91, r56_93, r56_96, r56_98, r56_99, r56_101, r56_104, r56_106, r56_109, r56_112, r56_115, r56_117, r56_120, r56_122, r56_123, r56_124, r56_127, r56_130, r56_132, r56_135, r56_136, r56_138, r56_141, r56_142, r56_145, r56_148, r56_149, r56_152, r56_154, r56_155, r56_156, r56_159, r56_160, r56_161, r56_162, r56_164, r56_166, r56_169, r56_171, r56_172, r56_175, r56_177, am_gf_4_0, am_gf_0_2, am_nl_i, am_nl_r, am_nl_n, am_nl_l, Option.bind_some, Option.toList_some, Option.toList_none, List.cons_append, List.nil_append, if_true, if_false, Bool.false_eq_true, Int.reduceEq, Int.reduceAdd, ↓reduceIte, true_or]
    · by_cases h3 : k = 3
      · subst h3
        simp (disch := first | assumption | omega | rfl | exact Nat.le_of_ble_eq_true rfl | decide) only [r56_0, r56_1, r56_4, r56_7, r56_8, r56_11, r56_12, r56_13, r56_16, r56_18, r56_20, r56_21, r56_24, r56_25, r56_26, r56_29, r56_30, r56_33, r56_34, r56_38, r56_41, r56_42, r56_43, r56_46, r56_48, r56_49, r56_52, r56_53, r56_56, r56_57, r56_60, r56_61, r56_64, r56_65, r56_68, r56_71, r56_72, r56_75, r56_77, r56_78, r56_81, r56_84, r56_85, r56_88, r56_89, r56_91, r56_93, r56_96, r56_98, r56_99, r56_101, r56_104, r56_106, r56_109, r56_112, r56_115, r56_117, r56_120, r56_122, r56_123, r56_124, r56_127, r56_130, r56_132, r56_135, r56_136, r56_138, r56_141, r56_142, r56_145, r56_148, r56_149, r56_152, r56_154, r56_155, r56_156, r56_159, r56_160, r56_161, r56_162, r56_164, r56_166, r56_169, r56_171, r56_172, r56_175, r56_177, am_gf_4_0, am_gf_0_2, am_nl_i, am_nl_r, am_nl_n, am_nl_l, Option.bind_some, Option.toList_some, Option.toList_none, List.cons_append, List.nil_append, if_true, if_false, Bool.false_eq_true, Int.reduceEq, Int.reduceAdd, ↓reduceIte, h1, or_true]
      · simp (disch := first | assumption | omega | rfl | exact Nat.le_of_ble_eq_true rfl | decide) only [r56_0, r56_1, r56_4, r56_7, r56_8, r56_11, r56_12, r56_13, r56_16, r56_18, r56_20, r56_21, r56_24, r56_25, r56_26, r56_29, r56_30, r56_33, r56_34, r56_38, r56_41, r56_42, r56_43, r56_46, r56_48, r56_49, r56_52, r56_53, r56_56, r56_57, r56_60, r56_61, r56_64, r56_65, r56_68, r56_71, r56_72, r56_75, r56_77, r56_78, r56_81, r56_84, r56_85, r56_88, r56_89, r56_91, r56_93, r56_96, r56_98, r56_99, r56_101, r56_104, r56_106, r56_109, r56_112, r56_115, r56_117, r56_120, r56_122, r56_123, r56_124, r56_127, r56_130, r56_132, r56_135, r56_136, r56_138, r56_141, r56_142, r56_145, r56_148, r56_149, r56_152, r56_154, r56_155, r56_156, r56_159, r56_160, r56_161, r56_162, r56_164, r56_166, r56_169, r56_171, r56_172, r56_175, r56_177, am_gf_4_0, am_gf_0_2, am_nl_i, am_nl_r, am_nl_n, am_nl_l, Option.bind_some, Option.toList_some, Option.toList_none, List.cons_append, List.nil_append, if_true, if_false, Bool.false_eq_true, Int.reduceEq, Int.reduceAdd, ↓reduceIte, h1, h3, or_self]
  rw [one, two, r56_36]
  unfold pfB
  by_cases hf : k = 1 ∨ k = 3
  · rw [if_pos hf, if_pos hf]
    by_cases h1 : f = -1
    · by_cases h2 : m = -1
      · rw [decide_eq_true h1, decide_eq_true h2]
        simp (disch := first | assumption | omega | rfl | exact Nat.le_of_ble_eq_true rfl | decide) only [r56_0, r56_1, r56_4, r56_7, r56_8, r56_11, r56_12, r56_13, r56_16, r56_18, r56_19, r56_20, r56_21, r56_24, r56_25, r56_26, r56_29, r56_30, r56_33, r56_34, r56_38, r56_41, r56_42, r56_43, r56_46, r56_48, r56_49, r56_52, r56_53, r56_56, r56_57, r56_60, r56_61, r56_64, r56_65, r56_68, r56_71, r56_72, r56_75, r56_77, r56_78, r56_81, r56_84, r56_85, r56_88, r56_89, r56_93, r56_96, r56_98, r56_99, r56_101, r56_104, r56_106, r56_109, r56_112, r56_115, r56_117, r56_120, r56_122, r56_123, r56_124, r56_127, r56_130, r56_132, r56_135, r56_136, r56_138, r56_141, r56_142, r56_145, r56_148, r56_149, r56_152, r56_154, r56_155, r56_156, r56_159, r56_160, r56_161, r56_162, r56_164, r56_166, r56_169, r56_171, r56_172, r56_175, r56_177, am_gf_4_0, am_gf_0_2, am_nl_i, am_nl_r, am_nl_n, am_nl_l, Option.bind_some, Option.toList_some, Option.toList_none, List.cons_append, List.nil_append, if_true, if_false, Bool.false_eq_true, Int.reduceEq, Int.reduceAdd, ↓reduceIte, e10, h1, h2, Bool.and_self]
      · rw [decide_eq_false h2, Bool.and_false]
        simp (disch := first | assumption | omega | rfl | exact Nat.le_of_ble_eq_true rfl | decide) only [r56_0, r56_1, r56_4, r56_7, r56_8, r56_11, r56_12, r56_13, r56_16, r56_18, r56_19, r56_20, r56_21, r56_24, r56_25, r56_26, r56_29, r56_30, r56_33, r56_34, r56_38, r56_41, r56_42, r56_43, r56_46, r56_48, r56_49, r56_52, r56_53, r56_56, r56_57, r56_60, r56_61, r56_64, r56_65, r56_68, r56_71, r56_72, r56_75, r56_77, r56_78, r56_81, r56_84, r56_85, r56_88, r56_89, r56_93, r56_96, r56_98, r56_99, r56_101, r56_104, r56_106, r56_109, r56_112, r56_115, r56_117, r56_120, r56_122, r56_123, r56_124, r56_127, r56_130, r56_132, r56_135, r56_136, r56_138, r56_141, r56_142, r56_145, r56_148, r56_149, r56_152, r56_154, r56_155, r56_156, r56_159, r56_160, r56_161, r56_162, r56_164, r56_166, r56_169, r56_171, r56_172, r56_175, r56_177, am_gf_4_0, am_gf_0_2, am_nl_i, am_nl_r, am_nl_n, am_nl_l, Option.bind_some, Option.toList_some, Option.toList_none, List.cons_append, List.nil_append, if_true, if_false, Bool.false_eq_true, Int.reduceEq, Int.reduceAdd, ↓reduceIte, e10, h1, h2]
    · rw [decide_eq_false h1, Bool.false_and]
      simp (disch := first | assumption | omega | rfl | exact Nat.le_of_ble_eq_true rfl | decide) only [r56_0, r56_1, r56_4, r56_7, r56_8, r56_11, r56_12, r56_13, r56_16, r56_18, r56_19, r56_20, r56_21, r56_24, r56_25, r56_26, r56_29, r56_30, r56_33, r56_34, r56_38, r56_41, r56_42, r56_43, r56_46, r56_48, r56_49, r56_52, r56_53, r56_56, r56_57, r56_60, r56_61, r56_64, r56_65, r56_68, r56_71, r56_72, r56_75, r56_77, r56_78, r56_81, r56_84, r56_85, r56_88, r56_89, r56_93, r56_96, r56_98, r56_99, r56_101, r56_104, r56_106, r56_109, r56_112, r56_115, r56_117, r56_120, r56_122, r56_123, r56_124, r56_127, r56_130, r56_132, r56_135, r56_136, r56_138, r56_141, r56_142, r56_145, r56_148, r56_149, r56_152, r56_154, r56_155, r56_156, r56_159, r56_160, r56_161, r56_162, r56_164, r56_166, r56_169, r56_171, r56_172, r56_175, r56_177, am_gf_4_0, am_gf_0_2, am_nl_i, am_nl_r, am_nl_n, am_nl_l, Option.bind_some, Option.toList_some, Option.toList_none, List.cons_append, List.nil_append, if_true, if_false, Bool.false_eq_true, Int.reduceEq, Int.reduceAdd, ↓reduceIte, e10, h1]
  · rw [if_neg hf, if_neg hf]
    have c1 := c_fthT (d := d + 2) (τ := τ) (x := f) hR hW
    have c2 := c_sexT (d := d + 3) (τ := τ) (x := m) (w := 1) hR hW
    cases h1 : fthB T f with
    | false =>
      rw [h1] at c1
      simp (disch := first | assumption | omega | rfl | exact Nat.le_of_ble_eq_true rfl | decide) only [r56_0, r56_1, r56_4, r56_7, r56_8, r56_11, r56_12, r56_13, r56_16, r56_18, r56_19, r56_20, r56_21, r56_24, r56_25, r56_26, r56_29, r56_30, r56_33, r56_34, r56_38, r56_41, r56_42, r56_43, r56_46, r56_48, r56_49, r56_52, r56_53, r56_56, r56_57, r56_60, r56_61, r56_64, r56_65, r56_68, r56_71, r56_72, r56_75, r56_77, r56_78, r56_81, r56_84, r56_85, r56_88, r56_89, r56_93, r56_96, r56_98, r56_99, r56_101, r56_104, r56_106, r56_109, r56_112, r56_115, r56_117, r56_120, r56_122, r56_123, r56_124, r56_127, r56_130, r56_132, r56_135, r56_136, r56_138, r56_141, r56_142, r56_145, r56_148, r56_149, r56_152, r56_154, r56_155, r56_156, r56_159, r56_160, r56_161, r56_162, r56_164, r56_166, r56_169, r56_171, r56_172, r56_175, r56_177, am_gf_4_0, am_gf_0_2, am_nl_i, am_nl_r, am_nl_n, am_nl_l, Option.bind_some, Option.toList_some, Option.toList_none, List.cons_append, List.nil_append, if_true, if_false, Bool.false_eq_true, Int.reduceEq, Int.reduceAdd, ↓reduceIte, c1, Bool.false_and]
    | true =>
      rw [h1] at c1
      cases h2 : sxB T m 1 with
      | false =>
        rw [h2] at c2
        simp (disch := first | assumption | omega | rfl | exact Nat.le_of_ble_eq_true rfl | decide) only [r56_0, r56_1, r56_4, r56_7, r56_8, r56_11, r56_12, r56_13, r56_16, r56_18, r56_19, r56_20, r56_21, r56_24, r56_25, r56_26, r56_29, r56_30, r56_33, r56_34, r56_38, r56_41, r56_42, r56_43, r56_46, r56_48, r56_49, r56_52, r56_53, r56_56, r56_57, r56_60, r56_61, r56_64, r56_65, r56_68, r56_71, r56_72, r56_75, r56_77, r56_78, r56_81, r56_84, r56_85, r56_88, r56_89, r56_93, r56_96, r56_98, r56_99, r56_101, r56_104, r56_106, r56_109, r56_112, r56_115, r56_117, r56_120, r56_122, r56_123, r56_124, r56_127, r56_130, r56_132, r56_135, r56_136, r56_138, r56_141, r56_142, r56_145, r56_148, r56_149, r56_152, r56_154, r56_155, r56_156, r56_159, r56_160, r56_161, r56_162, r56_164, r56_166, r56_169, r56_171, r56_172, r56_175, r56_177, am_gf_4_0, am_gf_0_2, am_nl_i, am_nl_r, am_nl_n, am_nl_l, Option.bind_some, Option.toList_some, Option.toList_none, List.cons_append, List.nil_append, if_true, if_false, Bool.false_eq_true, Int.reduceEq, Int.reduceAdd, ↓reduceIte, c1, e10, c2, Bool.and_false]
      | true =>
        rw [h2] at c2
        simp (disch := first | assumption | omega | rfl | exact Nat.le_of_ble_eq_true rfl | decide) only [r56_0, r56_1, r56_4, r56_7, r56_8, r56_11, r56_12, r56_13, r56_16, r56_18, r56_19, r56_20, r56_21, r56_24, r56_25, r56_26, r56_29, r56_30, r56_33, r56_34, r56_38, r56_41, r56_42, r56_43, r56_46, r56_48, r56_49, r56_52, r56_53, r56_56, r56_57, r56_60, r56_61, r56_64, r56_65, r56_68, r56_71, r56_72, r56_75, r56_77, r56_78, r56_81, r56_84, r56_85, r56_88, r56_89, r56_93, r56_96, r56_98, r56_99, r56_101, r56_104, r56_106, r56_109, r56_112, r56_115, r56_117, r56_120, r56_122, r56_123, r56_124, r56_127, r56_130, r56_132, r56_135, r56_136, r56_138, r56_141, r56_142, r56_145, r56_148, r56_149, r56_152, r56_154, r56_155, r56_156, r56_159, r56_160, r56_161, r56_162, r56_164, r56_166, r56_169, r56_171, r56_172, r56_175, r56_177, am_gf_4_0, am_gf_0_2, am_nl_i, am_nl_r, am_nl_n, am_nl_l, Option.bind_some, Option.toList_some, Option.toList_none, List.cons_append, List.nil_append, if_true, if_false, Bool.false_eq_true, Int.reduceEq, Int.reduceAdd, ↓reduceIte, c1, e10, c2, Bool.and_self]
theorem c_addT {d : Nat} {σ : am_St} {τ : Int64} {T : tS} {k s f m z : Int32} (hR : RC σ T) (hW : WF T) (hn12 : s_n T < 12) (hpf : pfB T k f m = true) (hz : pnB k z = false) : ∃ σ' : am_St, am_call (d + 1) 15 [.ref 4, .int k, .int s, .int f, .int m, .int z] σ τ = some (some (.int (nI (s_n T))), σ', τ) ∧ RC0 σ' (x_add T k s f m z) ∧ ∀ c, 42 ≤ c → σ' c = σ c := by
  have hps : ∀ i, i < s_n T → s_al T i = false → s_f T i < i ∧ s_g T i < i := fun i hi ha => ⟨((hW.2.1 i hi).2.2.1 ha).1, ((hW.2.1 i hi).2.2.1 ha).2.1⟩
  by_cases hf : k = 1 ∨ k = 3
  · have h := hpf
    unfold pfB at h
    rw [if_pos hf, Bool.and_eq_true] at h
    have e1 := of_decide_eq_true h.1
    have e2 := of_decide_eq_true h.2
    subst e1
    subst e2
    obtain ⟨σ', g1, g2, g3, g4, g5, g6, g7, g8, g9, g10, g11, g12, g13, g14⟩ := c_addF (d := d) (σ := σ) (τ := τ) (k := k) (s := s) (z := z) hR.1 hn12
    refine ⟨σ', g1, RC0_add hR hn12 hps (fun ha => ?_) g2 g3 g5 g6 (by rw [if_pos hf]; exact g7) (by rw [if_pos hf]; exact g8) (by rw [if_neg (by decide)]; exact g9) (by rw [gn_addn, if_pos hf]; exact g10) g11 g12 g13 (fun a => ?_), fun c hc => g2 c (by omega)⟩
    · rw [al_add, if_pos rfl, alK_k, decide_eq_true hf] at ha
      cases ha
    · rw [g14 a, up_addn, if_pos hf]
      by_cases h1 : s_n T * 12 ≤ a ∧ a < s_n T * 12 + 12
      · rw [if_pos h1]
        by_cases h2 : a = s_n T * 12 + s_n T
        · rw [if_pos h2, if_pos (show a - s_n T * 12 = s_n T by omega), if_pos h1]
        · rw [if_neg h2, if_pos h1, if_neg (by omega)]
      · rw [if_neg h1, if_neg (by omega), if_neg h1]
  · obtain ⟨a, b, ha, hb, hsa, hsb, rfl, efa, hfx⟩ := pf_parents hW.1 hf hpf
    have ez : z = 0 := by
      unfold pnB at hz
      rw [if_neg hf] at hz
      simpa using hz
    subst ez
    have em : (nI b).toNatClampNeg = b := nI_clamp (by omega)
    obtain ⟨σ', g1, g2, g3, g4, g5, g6, g7, g8, g9, g10, g11, g12, g13, g14⟩ := c_addC (d := d) (σ := σ) (τ := τ) (k := k) (s := s) (x := f) (b := if f = -2 then 1 else 0) (f := a) (g := b) hR.1 hn12 ha hb (by
      rcases hfx with ⟨h1, h2⟩ | ⟨h1, h2⟩
      · exact Or.inl ⟨h1, if_neg h2⟩
      · exact Or.inr ⟨h1, if_pos h1, by rw [lm_eq hR]; exact h2⟩)
    obtain ⟨-, -, -, -, -, qa, -, -, -, -, ua⟩ := hR.2.1 a ha
    obtain ⟨-, -, -, -, -, qb, -, -, -, -, ub⟩ := hR.2.1 b hb
    have la : s_gn T a ≤ 12 := Nat.le_trans (gnA_le _ _ _ _ _) hW.1
    have lb : s_gn T b ≤ 12 := Nat.le_trans (gnA_le _ _ _ _ _) hW.1
    refine ⟨σ', g1, RC0_add hR hn12 hps (fun _ => by rw [efa, em]; exact ⟨ha, hb⟩) g2 g3 g5 g6 (by rw [if_neg hf, efa]; exact g7) (by rw [if_neg hf, em]; exact g8) g9 ?_ g11 g12 g13 (fun c => ?_), fun c hc => g2 c (by omega)⟩
    · rw [gn_addn, if_neg hf, efa, em, g10, qa, qb]
      congr 1
      by_cases h : s_gn T a < s_gn T b
      · have h2 : nI (s_gn T a) < nI (s_gn T b) := (nI_ltI (by omega) (by omega)).mpr h
        rw [if_pos h, if_pos h2]
        exact nI_add 1 _
      · have h2 : ¬ nI (s_gn T a) < nI (s_gn T b) := by rw [ni_lt (by omega) (by omega)]; exact h
        rw [if_neg h, if_neg h2]
        exact nI_add 1 _
    · rw [g14 c, up_addn, if_neg hf, efa, em]
      by_cases h1 : s_n T * 12 ≤ c ∧ c < s_n T * 12 + 12
      · rw [if_pos h1]
        by_cases h2 : c = s_n T * 12 + s_n T
        · rw [if_pos h2, if_pos (show c - s_n T * 12 = s_n T by omega), if_pos h1]
        · rw [if_neg h2, if_pos h1, if_neg (by omega), ua _ (by omega), ub _ (by omega)]
      · rw [if_neg h1, if_neg (by omega), if_neg h1]
theorem c_person {d : Nat} {σ : am_St} {τ : Int64} {T : tS} {k s f m z : Int32} (hR : RC σ T) (hW : WF T) : ∃ σ' : am_St, am_call (d + 5) 56 [.ref 0, .int k, .int s, .int f, .int m, .int z] σ τ = some (some (.int (sp_person T k s f m z).1), σ', τ) ∧ RC σ' (sp_person T k s f m z).2 ∧ ∀ c, 42 ≤ c → σ' c = σ c := by
  have hn := hR.1
  have h12 := hW.1
  show ∃ σ' : am_St, am_run (d + 5) 56 0 [.ref 0, .int k, .int s, .int f, .int m, .int z, .null, .null, .null] [] σ τ = _ ∧ _
  unfold sp_person
  by_cases hk : kdB k = 0
  · rw [if_pos (Or.inl hk)]
    refine ⟨σ, ?_, hR, fun _ _ => rfl⟩
    simp (disch := first | assumption | omega | rfl | exact Nat.le_of_ble_eq_true rfl | decide) only [r56_0, r56_1, r56_4, r56_7, r56_8, r56_11, r56_12, r56_13, r56_16, r56_18, r56_19, r56_20, r56_21, r56_24, r56_25, r56_26, r56_29, r56_30, r56_33, r56_34, r56_36, r56_38, r56_41, r56_42, r56_43, r56_46, r56_48, r56_49, r56_52, r56_53, r56_56, r56_57, r56_60, r56_61, r56_64, r56_65, r56_68, r56_71, r56_72, r56_75, r56_77, r56_78, r56_81, r56_84, r56_85, r56_88, r56_89, r56_91, r56_93, r56_96, r56_98, r56_99, r56_101, r56_104, r56_106, r56_109, r56_112, r56_115, r56_117, r56_120, r56_122, r56_123, r56_124, r56_127, r56_130, r56_132, r56_135, r56_136, r56_138, r56_141, r56_142, r56_145, r56_148, r56_149, r56_152, r56_154, r56_155, r56_156, r56_159, r56_160, r56_161, r56_162, r56_164, r56_166, r56_169, r56_171, r56_172, r56_175, r56_177, am_gf_4_0, am_gf_0_2, am_nl_i, am_nl_r, am_nl_n, am_nl_l, Option.bind_some, Option.toList_some, Option.toList_none, List.cons_append, List.nil_append, if_true, if_false, Bool.false_eq_true, Int.reduceEq, Int.reduceAdd, ↓reduceIte, c_isKind, hk]
  · by_cases hs : s = 0 ∨ s = 1
    · rw [if_neg (fun q => q.elim hk (fun q => q hs)), c_person_pre hR hW hk hs]
      cases hpf : pfB T k f m with
      | false =>
        rw [if_pos (show false = false from rfl)]
        refine ⟨σ, ?_, hR, fun _ _ => rfl⟩
        simp (disch := first | assumption | omega | rfl | exact Nat.le_of_ble_eq_true rfl | decide) only [r56_0, r56_1, r56_4, r56_7, r56_8, r56_11, r56_12, r56_13, r56_16, r56_18, r56_19, r56_20, r56_21, r56_24, r56_25, r56_26, r56_29, r56_30, r56_33, r56_34, r56_36, r56_38, r56_41, r56_42, r56_43, r56_46, r56_48, r56_49, r56_52, r56_53, r56_56, r56_57, r56_60, r56_61, r56_64, r56_65, r56_68, r56_71, r56_72, r56_75, r56_77, r56_78, r56_81, r56_84, r56_85, r56_88, r56_89, r56_91, r56_93, r56_96, r56_98, r56_99, r56_101, r56_104, r56_106, r56_109, r56_112, r56_115, r56_117, r56_120, r56_122, r56_123, r56_124, r56_127, r56_130, r56_132, r56_135, r56_136, r56_138, r56_141, r56_142, r56_145, r56_148, r56_149, r56_152, r56_154, r56_155, r56_156, r56_159, r56_160, r56_161, r56_162, r56_164, r56_166, r56_169, r56_171, r56_172, r56_175, r56_177, am_gf_4_0, am_gf_0_2, am_nl_i, am_nl_r, am_nl_n, am_nl_l, Option.bind_some, Option.toList_some, Option.toList_none, List.cons_append, List.nil_append, if_true, if_false, Bool.false_eq_true, Int.reduceEq, Int.reduceAdd, ↓reduceIte]
      | true =>
        rw [if_neg (show ¬ true = false by decide)]
        cases hz : pnB k z with
        | true =>
          rw [if_pos (show true = true from rfl)]
          refine ⟨σ, ?_, hR, fun _ _ => rfl⟩
          unfold pnB at hz
          by_cases hf : k = 1 ∨ k = 3
          · rw [if_pos hf] at hz
            have hz := of_decide_eq_true hz
            simp (disch := first | assumption | omega | rfl | exact Nat.le_of_ble_eq_true rfl | decide) only [r56_0, r56_1, r56_4, r56_7, r56_8, r56_11, r56_12, r56_13, r56_16, r56_18, r56_19, r56_20, r56_21, r56_24, r56_25, r56_26, r56_29, r56_30, r56_33, r56_34, r56_36, r56_38, r56_41, r56_42, r56_43, r56_46, r56_48, r56_49, r56_52, r56_53, r56_56, r56_57, r56_60, r56_61, r56_64, r56_65, r56_68, r56_71, r56_72, r56_75, r56_77, r56_78, r56_81, r56_84, r56_85, r56_88, r56_89, r56_91, r56_93, r56_96, r56_98, r56_99, r56_101, r56_104, r56_106, r56_109, r56_112, r56_115, r56_117, r56_120, r56_122, r56_123, r56_124, r56_127, r56_130, r56_132, r56_135, r56_136, r56_138, r56_141, r56_142, r56_145, r56_148, r56_149, r56_152, r56_154, r56_155, r56_156, r56_159, r56_160, r56_161, r56_162, r56_164, r56_166, r56_169, r56_171, r56_172, r56_175, r56_177, am_gf_4_0, am_gf_0_2, am_nl_i, am_nl_r, am_nl_n, am_nl_l, Option.bind_some, Option.toList_some, Option.toList_none, List.cons_append, List.nil_append, if_true, if_false, Bool.false_eq_true, Int.reduceEq, Int.reduceAdd, ↓reduceIte, hf, e10, c_isName, hz]
          · rw [if_neg hf] at hz
            have hz : ¬ z = 0 := by simpa using hz
            simp (disch := first | assumption | omega | rfl | exact Nat.le_of_ble_eq_true rfl | decide) only [r56_0, r56_1, r56_4, r56_7, r56_8, r56_11, r56_12, r56_13, r56_16, r56_18, r56_19, r56_20, r56_21, r56_24, r56_25, r56_26, r56_29, r56_30, r56_33, r56_34, r56_36, r56_38, r56_41, r56_42, r56_43, r56_46, r56_48, r56_49, r56_52, r56_53, r56_56, r56_57, r56_60, r56_61, r56_64, r56_65, r56_68, r56_71, r56_72, r56_75, r56_77, r56_78, r56_81, r56_84, r56_85, r56_88, r56_89, r56_91, r56_93, r56_96, r56_98, r56_99, r56_101, r56_104, r56_106, r56_109, r56_112, r56_115, r56_117, r56_120, r56_122, r56_123, r56_124, r56_127, r56_130, r56_132, r56_135, r56_136, r56_138, r56_141, r56_142, r56_145, r56_148, r56_149, r56_152, r56_154, r56_155, r56_156, r56_159, r56_160, r56_161, r56_162, r56_164, r56_166, r56_169, r56_171, r56_172, r56_175, r56_177, am_gf_4_0, am_gf_0_2, am_nl_i, am_nl_r, am_nl_n, am_nl_l, Option.bind_some, Option.toList_some, Option.toList_none, List.cons_append, List.nil_append, if_true, if_false, Bool.false_eq_true, Int.reduceEq, Int.reduceAdd, ↓reduceIte, hf, e10, hz]
        | false =>
          rw [if_neg (show ¬ false = true by decide), if_pos (show true = true from rfl)]
          have go : am_run (d + 5) 56 91 [.ref 0, .int k, .int s, .int f, .int m, .int z, .int (if k = 1 ∨ k = 3 then 1 else 0), .int 1, .null] [] σ τ = am_run (d + 5) 56 123 [.ref 0, .int k, .int s, .int f, .int m, .int z, .int (if k = 1 ∨ k = 3 then 1 else 0), .int 1, .null] [] σ τ := by
            have hz2 := hz
            unfold pnB at hz2
            rw [r56_91]
            by_cases hf : k = 1 ∨ k = 3
            · rw [if_pos hf] at hz2
              have hz2 := of_decide_eq_false hz2
              simp (disch := first | assumption | omega | rfl | exact Nat.le_of_ble_eq_true rfl | decide) only [r56_0, r56_1, r56_4, r56_7, r56_8, r56_11, r56_12, r56_13, r56_16, r56_18, r56_19, r56_20, r56_21, r56_24, r56_25, r56_26, r56_29, r56_30, r56_33, r56_34, r56_36, r56_38, r56_41, r56_42, r56_43, r56_46, r56_48, r56_49, r56_52, r56_53, r56_56, r56_57, r56_60, r56_61, r56_64, r56_65, r56_68, r56_71, r56_72, r56_75, r56_77, r56_78, r56_81, r56_84, r56_85, r56_88, r56_89, r56_91, r56_93, r56_96, r56_98, r56_99, r56_101, r56_104, r56_106, r56_109, r56_112, r56_115, r56_117, r56_120, r56_122, r56_124, r56_127, r56_130, r56_132, r56_135, r56_136, r56_138, r56_141, r56_142, r56_145, r56_148, r56_149, r56_152, r56_154, r56_155, r56_156, r56_159, r56_160, r56_161, r56_162, r56_164, r56_166, r56_169, r56_171, r56_172, r56_175, r56_177, am_gf_4_0, am_gf_0_2, am_nl_i, am_nl_r, am_nl_n, am_nl_l, Option.bind_some, Option.toList_some, Option.toList_none, List.cons_append, List.nil_append, if_true, if_false, Bool.false_eq_true, Int.reduceEq, Int.reduceAdd, ↓reduceIte, hf, e10, c_isName, hz2]
            · rw [if_neg hf] at hz2
              have hz2 : z = 0 := by simpa using hz2
              simp (disch := first | assumption | omega | rfl | exact Nat.le_of_ble_eq_true rfl | decide) only [r56_0, r56_1, r56_4, r56_7, r56_8, r56_11, r56_12, r56_13, r56_16, r56_18, r56_19, r56_20, r56_21, r56_24, r56_25, r56_26, r56_29, r56_30, r56_33, r56_34, r56_36, r56_38, r56_41, r56_42, r56_43, r56_46, r56_48, r56_49, r56_52, r56_53, r56_56, r56_57, r56_60, r56_61, r56_64, r56_65, r56_68, r56_71, r56_72, r56_75, r56_77, r56_78, r56_81, r56_84, r56_85, r56_88, r56_89, r56_91, r56_93, r56_96, r56_98, r56_99, r56_101, r56_104, r56_106, r56_109, r56_112, r56_115, r56_117, r56_120, r56_122, r56_124, r56_127, r56_130, r56_132, r56_135, r56_136, r56_138, r56_141, r56_142, r56_145, r56_148, r56_149, r56_152, r56_154, r56_155, r56_156, r56_159, r56_160, r56_161, r56_162, r56_164, r56_166, r56_169, r56_171, r56_172, r56_175, r56_177, am_gf_4_0, am_gf_0_2, am_nl_i, am_nl_r, am_nl_n, am_nl_l, Option.bind_some, Option.toList_some, Option.toList_none, List.cons_append, List.nil_append, if_true, if_false, Bool.false_eq_true, Int.reduceEq, Int.reduceAdd, ↓reduceIte, hf, e10, hz2]
          rw [go, r56_123]
          have hg : am_call (d + 4) 11 [.ref 4] σ τ = some (some (.int (nI (cnt (s_gp T) (s_n T)))), σ, τ) := by
            rw [c_gaps hn h12, cnt_congr (Q := s_gp T) (fun i hi => by rw [(hR.2.1 i hi).2.2.2.2.1]; cases s_gp T i <;> decide)]
          have hg3 := hW.2.2.1
          by_cases hfu : s_n T = 12 ∨ (f = -2 ∧ 3 ≤ cnt (s_gp T) (s_n T))
          · rw [if_pos hfu]
            refine ⟨σ, ?_, hR, fun _ _ => rfl⟩
            by_cases hq : s_n T = 12
            · have h2 : 12 ≤ s_n T := by omega
              simp (disch := first | assumption | omega | rfl | exact Nat.le_of_ble_eq_true rfl | decide) only [r56_0, r56_1, r56_4, r56_7, r56_8, r56_11, r56_12, r56_13, r56_16, r56_18, r56_19, r56_20, r56_21, r56_24, r56_25, r56_26, r56_29, r56_30, r56_33, r56_34, r56_36, r56_38, r56_41, r56_42, r56_43, r56_46, r56_48, r56_49, r56_52, r56_53, r56_56, r56_57, r56_60, r56_61, r56_64, r56_65, r56_68, r56_71, r56_72, r56_75, r56_77, r56_78, r56_81, r56_84, r56_85, r56_88, r56_89, r56_91, r56_93, r56_96, r56_98, r56_99, r56_101, r56_104, r56_106, r56_109, r56_112, r56_115, r56_117, r56_120, r56_122, r56_124, r56_127, r56_130, r56_132, r56_135, r56_136, r56_138, r56_141, r56_142, r56_145, r56_148, r56_149, r56_152, r56_154, r56_155, r56_156, r56_159, r56_160, r56_161, r56_162, r56_164, r56_166, r56_169, r56_171, r56_172, r56_175, r56_177, am_gf_4_0, am_gf_0_2, am_nl_i, am_nl_r, am_nl_n, am_nl_l, Option.bind_some, Option.toList_some, Option.toList_none, List.cons_append, List.nil_append, if_true, if_false, Bool.false_eq_true, Int.reduceEq, Int.reduceAdd, ↓reduceIte, hn, show (12 : Int32) = nI 12 from rfl, ni_le, h2]
            · have h2 : ¬ 12 ≤ s_n T := by omega
              obtain ⟨h3, h4⟩ := hfu.resolve_left hq
              have h5 : ¬ nI (cnt (s_gp T) (s_n T)) < 3 := by
                show ¬ nI (cnt (s_gp T) (s_n T)) < nI 3
                rw [ni_lt (by omega) (by omega)]; omega
              simp (disch := first | assumption | omega | rfl | exact Nat.le_of_ble_eq_true rfl | decide) only [r56_0, r56_1, r56_4, r56_7, r56_8, r56_11, r56_12, r56_13, r56_16, r56_18, r56_19, r56_20, r56_21, r56_24, r56_25, r56_26, r56_29, r56_30, r56_33, r56_34, r56_36, r56_38, r56_41, r56_42, r56_43, r56_46, r56_48, r56_49, r56_52, r56_53, r56_56, r56_57, r56_60, r56_61, r56_64, r56_65, r56_68, r56_71, r56_72, r56_75, r56_77, r56_78, r56_81, r56_84, r56_85, r56_88, r56_89, r56_91, r56_93, r56_96, r56_98, r56_99, r56_101, r56_104, r56_106, r56_109, r56_112, r56_115, r56_117, r56_120, r56_122, r56_124, r56_127, r56_130, r56_132, r56_135, r56_136, r56_138, r56_141, r56_142, r56_145, r56_148, r56_149, r56_152, r56_154, r56_155, r56_156, r56_159, r56_160, r56_161, r56_162, r56_164, r56_166, r56_169, r56_171, r56_172, r56_175, r56_177, am_gf_4_0, am_gf_0_2, am_nl_i, am_nl_r, am_nl_n, am_nl_l, Option.bind_some, Option.toList_some, Option.toList_none, List.cons_append, List.nil_append, if_true, if_false, Bool.false_eq_true, Int.reduceEq, Int.reduceAdd, ↓reduceIte, hn, show (12 : Int32) = nI 12 from rfl, ni_le, h2, h3, hg, h5]
          · rw [if_neg hfu]
            have hn12 : s_n T < 12 := by omega
            obtain ⟨σ1, a1, a2, a3⟩ := c_addT (d := d + 3) (τ := τ) (s := s) hR hW hn12 hpf hz
            have hW2 : WF (x_add T k s f m z) := hW.add hk hs hpf hn12 (fun q => hfu (Or.inr q))
            obtain ⟨σ2, b1, b2, b3⟩ := c_nameT (d := d) (τ := τ) a2 hW2
            refine ⟨σ2, ?_, b2, fun c hc => by rw [b3 c (by omega) (by omega), a3 c hc]⟩
            have h2 : ¬ nI 12 ≤ nI (s_n T) := by rw [ni_le (by omega) (by omega)]; omega
            have h2 : ¬ 12 ≤ nI (s_n T) := h2
            by_cases h3 : f = -2
            · have h5 : nI (cnt (s_gp T) (s_n T)) < 3 := (nI_ltI (b := 3) (by omega) (by omega)).mpr (by have : ¬ 3 ≤ cnt (s_gp T) (s_n T) := fun q => hfu (Or.inr ⟨h3, q⟩); omega)
              subst h3
              simp (disch := first | assumption | omega | rfl | exact Nat.le_of_ble_eq_true rfl | decide) only [r56_0, r56_1, r56_4, r56_7, r56_8, r56_11, r56_12, r56_13, r56_16, r56_18, r56_19, r56_20, r56_21, r56_24, r56_25, r56_26, r56_29, r56_30, r56_33, r56_34, r56_36, r56_38, r56_41, r56_42, r56_43, r56_46, r56_48, r56_49, r56_52, r56_53, r56_56, r56_57, r56_60, r56_61, r56_64, r56_65, r56_68, r56_71, r56_72, r56_75, r56_77, r56_78, r56_81, r56_84, r56_85, r56_88, r56_89, r56_91, r56_93, r56_96, r56_98, r56_99, r56_101, r56_104, r56_106, r56_109, r56_112, r56_115, r56_117, r56_120, r56_122, r56_124, r56_127, r56_130, r56_132, r56_135, r56_136, r56_138, r56_141, r56_142, r56_145, r56_148, r56_149, r56_152, r56_154, r56_155, r56_156, r56_159, r56_160, r56_161, r56_162, r56_164, r56_166, r56_169, r56_171, r56_172, r56_175, r56_177, am_gf_4_0, am_gf_0_2, am_nl_i, am_nl_r, am_nl_n, am_nl_l, Option.bind_some, Option.toList_some, Option.toList_none, List.cons_append, List.nil_append, if_true, if_false, Bool.false_eq_true, Int.reduceEq, Int.reduceAdd, ↓reduceIte, hn, h2, hg, h5, a1, b1]
            · simp (disch := first | assumption | omega | rfl | exact Nat.le_of_ble_eq_true rfl | decide) only [r56_0, r56_1, r56_4, r56_7, r56_8, r56_11, r56_12, r56_13, r56_16, r56_18, r56_19, r56_20, r56_21, r56_24, r56_25, r56_26, r56_29, r56_30, r56_33, r56_34, r56_36, r56_38, r56_41, r56_42, r56_43, r56_46, r56_48, r56_49, r56_52, r56_53, r56_56, r56_57, r56_60, r56_61, r56_64, r56_65, r56_68, r56_71, r56_72, r56_75, r56_77, r56_78, r56_81, r56_84, r56_85, r56_88, r56_89, r56_91, r56_93, r56_96, r56_98, r56_99, r56_101, r56_104, r56_106, r56_109, r56_112, r56_115, r56_117, r56_120, r56_122, r56_124, r56_127, r56_130, r56_132, r56_135, r56_136, r56_138, r56_141, r56_142, r56_145, r56_148, r56_149, r56_152, r56_154, r56_155, r56_156, r56_159, r56_160, r56_161, r56_162, r56_164, r56_166, r56_169, r56_171, r56_172, r56_175, r56_177, am_gf_4_0, am_gf_0_2, am_nl_i, am_nl_r, am_nl_n, am_nl_l, Option.bind_some, Option.toList_some, Option.toList_none, List.cons_append, List.nil_append, if_true, if_false, Bool.false_eq_true, Int.reduceEq, Int.reduceAdd, ↓reduceIte, hn, h2, h3, a1, b1]
    · rw [if_pos (Or.inr hs)]
      have h0 : ¬ s = 0 := fun q => hs (Or.inl q)
      have h1 : ¬ s = 1 := fun q => hs (Or.inr q)
      refine ⟨σ, ?_, hR, fun _ _ => rfl⟩
      simp (disch := first | assumption | omega | rfl | exact Nat.le_of_ble_eq_true rfl | decide) only [r56_0, r56_1, r56_4, r56_7, r56_8, r56_11, r56_12, r56_13, r56_16, r56_18, r56_19, r56_20, r56_21, r56_24, r56_25, r56_26, r56_29, r56_30, r56_33, r56_34, r56_36, r56_38, r56_41, r56_42, r56_43, r56_46, r56_48, r56_49, r56_52, r56_53, r56_56, r56_57, r56_60, r56_61, r56_64, r56_65, r56_68, r56_71, r56_72, r56_75, r56_77, r56_78, r56_81, r56_84, r56_85, r56_88, r56_89, r56_91, r56_93, r56_96, r56_98, r56_99, r56_101, r56_104, r56_106, r56_109, r56_112, r56_115, r56_117, r56_120, r56_122, r56_123, r56_124, r56_127, r56_130, r56_132, r56_135, r56_136, r56_138, r56_141, r56_142, r56_145, r56_148, r56_149, r56_152, r56_154, r56_155, r56_156, r56_159, r56_160, r56_161, r56_162, r56_164, r56_166, r56_169, r56_171, r56_172, r56_175, r56_177, am_gf_4_0, am_gf_0_2, am_nl_i, am_nl_r, am_nl_n, am_nl_l, Option.bind_some, Option.toList_some, Option.toList_none, List.cons_append, List.nil_append, if_true, if_false, Bool.false_eq_true, Int.reduceEq, Int.reduceAdd, ↓reduceIte, c_isKind, hk, h0, h1]
