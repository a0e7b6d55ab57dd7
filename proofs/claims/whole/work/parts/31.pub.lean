/-! OtherName: the calls that read -/
/-- the person that a number names -/
def idx (n : Nat) (p : Int32) : Option Nat := if p < 0 then none else if nI n ≤ p then none else some p.toNatClampNeg
theorem idx_some {n j : Nat} {p : Int32} (hn : n ≤ 12) (h : idx n p = some j) : j < n ∧ p = nI j := by
  unfold idx at h
  split at h
  · cases h
  · rename_i h1
    split at h
    · cases h
    · rename_i h2
      cases h
      obtain ⟨k, hk, rfl⟩ := nI_of h1
      rw [nI_clamp hk]
      rw [ni_le (by omega) (by omega)] at h2
      exact ⟨by omega, rfl⟩
theorem c_has_n {d n : Nat} {σ : am_St} {τ : Int64} {p : Int32} (hn : σ 4 0 = nI n) (h : idx n p = none) : am_call d 6 [.ref 4, .int p] σ τ = some (some (.int 0), σ, τ) := by
  rw [c_has hn]
  unfold idx at h
  split at h
  · rename_i h1; rw [if_pos h1]
  · rename_i h1
    split at h
    · rename_i h2; rw [if_neg h1, if_pos h2]
    · cases h
theorem c_has_s {d n j : Nat} {σ : am_St} {τ : Int64} {p : Int32} (hn : σ 4 0 = nI n) (h : idx n p = some j) : am_call d 6 [.ref 4, .int p] σ τ = some (some (.int 1), σ, τ) := by
  rw [c_has hn]
  unfold idx at h
  split at h
  · cases h
  · rename_i h1
    split at h
    · cases h
    · rename_i h2; rw [if_neg h1, if_neg h2]
theorem e10 : ¬ (1 : Int32) = 0 := by decide
/-- what about() tells -/
def abS (T : tS) (j : Nat) (x : Int32) : Int32 := if x = 0 then s_kd T j else if x = 1 then s_sx T j else if x = 2 then (if s_gp T j = true then -2 else encS (s_al T) (s_f T) j) else if x = 3 then encS (s_al T) (s_g T) j else if x = 4 then s_nm T j else if x = 5 then s_wr T j else if x = 6 then s_lv T j else if x = 7 then nI (s_gn T j) else -102
def sp_about (T : tS) (p x : Int32) : Int32 := match idx (s_n T) p with
  | none => -101
  | some j => abS T j x
theorem c_about {d : Nat} {σ : am_St} {τ : Int64} {T : tS} {p x : Int32} (hR : RC σ T) (hW : WF T) : am_call (d + 1) 57 [.ref 0, .int p, .int x] σ τ = some (some (.int (sp_about T p x)), σ, τ) := by
  show am_run (d + 1) 57 0 [.ref 0, .int p, .int x] [] σ τ = _
  unfold sp_about
  have hn := hR.1
  have h12 := hW.1
  cases hp : idx (s_n T) p with
  | none => simp (disch := first | assumption | omega | rfl | exact Nat.le_of_ble_eq_true rfl | decide) only [r57_0, r57_1, r57_4, r57_5, r57_8, r57_11, r57_13, r57_14, r57_15, r57_60, r57_61, r57_64, r57_67, r57_68, r57_69, r57_70, r57_71, r57_74, r57_77, r57_78, r57_79, r57_80, r57_81, r57_84, r57_87, r57_88, r57_89, r57_92, r57_94, r57_97, r57_98, r57_101, r57_104, r57_105, r57_106, r57_107, r57_108, r57_111, r57_114, r57_115, r57_116, r57_117, r57_118, r57_121, r57_124, r57_125, r57_126, r57_127, r57_128, r57_131, r57_134, r57_135, r57_136, r57_137, r57_138, r57_141, r57_144, r57_145, r57_146, r57_149, r57_150, r57_153, r57_154, r57_155, r57_156, r57_159, r57_162, r57_163, r57_164, r57_165, r57_167, am_gf_4_1, am_gf_4_2, am_gf_4_3, am_gf_4_4, am_gf_4_5, am_gf_4_6, am_gf_4_8, am_gf_4_9, am_gf_15_0, am_gf_18_0, am_gf_0_2, am_gf_0_3, am_ai_5, am_ai_6, am_ai_7, am_ai_8, am_ai_9, am_ai_10, am_ai_12, am_ai_13, am_ai_16, am_ai_19, am_nl_i, am_nl_r, am_nl_n, am_nl_l, Option.bind_some, Option.toList_some, Option.toList_none, List.cons_append, List.nil_append, if_true, if_false, Bool.false_eq_true, Int.reduceEq, Int.reduceAdd, ↓reduceIte, c_has_n hn hp]
  | some j =>
    obtain ⟨hj, rfl⟩ := idx_some h12 hp
    have hj12 : j < 12 := by omega
    obtain ⟨q5, q6, q7, q8, q9, q10, q11, q12, q13, q16, -⟩ := hR.2.1 j hj
    have hlv := (hW.2.1 j hj).2.2.2.2
    unfold abS
    by_cases h0 : x = 0
    · subst h0
      have t0 : (0 : Int32).toInt = 0 := by decide
      simp (disch := first | assumption | omega | rfl | exact Nat.le_of_ble_eq_true rfl | decide) only [r57_0, r57_1, r57_4, r57_5, r57_8, r57_11, r57_13, r57_14, r57_15, r57_60, r57_61, r57_64, r57_67, r57_68, r57_69, r57_70, r57_71, r57_74, r57_77, r57_78, r57_79, r57_80, r57_81, r57_84, r57_87, r57_88, r57_89, r57_92, r57_94, r57_97, r57_98, r57_101, r57_104, r57_105, r57_106, r57_107, r57_108, r57_111, r57_114, r57_115, r57_116, r57_117, r57_118, r57_121, r57_124, r57_125, r57_126, r57_127, r57_128, r57_131, r57_134, r57_135, r57_136, r57_137, r57_138, r57_141, r57_144, r57_145, r57_146, r57_149, r57_150, r57_153, r57_154, r57_155, r57_156, r57_159, r57_162, r57_163, r57_164, r57_165, r57_167, am_gf_4_1, am_gf_4_2, am_gf_4_3, am_gf_4_4, am_gf_4_5, am_gf_4_6, am_gf_4_8, am_gf_4_9, am_gf_15_0, am_gf_18_0, am_gf_0_2, am_gf_0_3, am_ai_5, am_ai_6, am_ai_7, am_ai_8, am_ai_9, am_ai_10, am_ai_12, am_ai_13, am_ai_16, am_ai_19, am_nl_i, am_nl_r, am_nl_n, am_nl_l, Option.bind_some, Option.toList_some, Option.toList_none, List.cons_append, List.nil_append, if_true, if_false, Bool.false_eq_true, Int.reduceEq, Int.reduceAdd, ↓reduceIte, c_has_s hn hp, e10, am_sw, t0, q5]
    · by_cases h1 : x = 1
      · subst h1
        have t1 : (1 : Int32).toInt = 1 := by decide
        simp (disch := first | assumption | omega | rfl | exact Nat.le_of_ble_eq_true rfl | decide) only [r57_0, r57_1, r57_4, r57_5, r57_8, r57_11, r57_13, r57_14, r57_15, r57_60, r57_61, r57_64, r57_67, r57_68, r57_69, r57_70, r57_71, r57_74, r57_77, r57_78, r57_79, r57_80, r57_81, r57_84, r57_87, r57_88, r57_89, r57_92, r57_94, r57_97, r57_98, r57_101, r57_104, r57_105, r57_106, r57_107, r57_108, r57_111, r57_114, r57_115, r57_116, r57_117, r57_118, r57_121, r57_124, r57_125, r57_126, r57_127, r57_128, r57_131, r57_134, r57_135, r57_136, r57_137, r57_138, r57_141, r57_144, r57_145, r57_146, r57_149, r57_150, r57_153, r57_154, r57_155, r57_156, r57_159, r57_162, r57_163, r57_164, r57_165, r57_167, am_gf_4_1, am_gf_4_2, am_gf_4_3, am_gf_4_4, am_gf_4_5, am_gf_4_6, am_gf_4_8, am_gf_4_9, am_gf_15_0, am_gf_18_0, am_gf_0_2, am_gf_0_3, am_ai_5, am_ai_6, am_ai_7, am_ai_8, am_ai_9, am_ai_10, am_ai_12, am_ai_13, am_ai_16, am_ai_19, am_nl_i, am_nl_r, am_nl_n, am_nl_l, Option.bind_some, Option.toList_some, Option.toList_none, List.cons_append, List.nil_append, if_true, if_false, Bool.false_eq_true, Int.reduceEq, Int.reduceAdd, ↓reduceIte, c_has_s hn hp, e10, am_sw, t1, q6]
      · by_cases h2 : x = 2
        · subst h2
          have t2 : (2 : Int32).toInt = 2 := by decide
          cases hg : s_gp T j with
          | true =>
            rw [hg] at q9
            simp only [if_true] at q9
            simp (disch := first | assumption | omega | rfl | exact Nat.le_of_ble_eq_true rfl | decide) only [r57_0, r57_1, r57_4, r57_5, r57_8, r57_11, r57_13, r57_14, r57_15, r57_60, r57_61, r57_64, r57_67, r57_68, r57_69, r57_70, r57_71, r57_74, r57_77, r57_78, r57_79, r57_80, r57_81, r57_84, r57_87, r57_88, r57_89, r57_92, r57_94, r57_97, r57_98, r57_101, r57_104, r57_105, r57_106, r57_107, r57_108, r57_111, r57_114, r57_115, r57_116, r57_117, r57_118, r57_121, r57_124, r57_125, r57_126, r57_127, r57_128, r57_131, r57_134, r57_135, r57_136, r57_137, r57_138, r57_141, r57_144, r57_145, r57_146, r57_149, r57_150, r57_153, r57_154, r57_155, r57_156, r57_159, r57_162, r57_163, r57_164, r57_165, r57_167, am_gf_4_1, am_gf_4_2, am_gf_4_3, am_gf_4_4, am_gf_4_5, am_gf_4_6, am_gf_4_8, am_gf_4_9, am_gf_15_0, am_gf_18_0, am_gf_0_2, am_gf_0_3, am_ai_5, am_ai_6, am_ai_7, am_ai_8, am_ai_9, am_ai_10, am_ai_12, am_ai_13, am_ai_16, am_ai_19, am_nl_i, am_nl_r, am_nl_n, am_nl_l, Option.bind_some, Option.toList_some, Option.toList_none, List.cons_append, List.nil_append, if_true, if_false, Bool.false_eq_true, Int.reduceEq, Int.reduceAdd, ↓reduceIte, c_has_s hn hp, e10, am_sw, t2, q9, h0, h1, hg]
          | false =>
            rw [hg] at q9
            simp only [Bool.false_eq_true, if_false] at q9
            simp (disch := first | assumption | omega | rfl | exact Nat.le_of_ble_eq_true rfl | decide) only [r57_0, r57_1, r57_4, r57_5, r57_8, r57_11, r57_13, r57_14, r57_15, r57_60, r57_61, r57_64, r57_67, r57_68, r57_69, r57_70, r57_71, r57_74, r57_77, r57_78, r57_79, r57_80, r57_81, r57_84, r57_87, r57_88, r57_89, r57_92, r57_94, r57_97, r57_98, r57_101, r57_104, r57_105, r57_106, r57_107, r57_108, r57_111, r57_114, r57_115, r57_116, r57_117, r57_118, r57_121, r57_124, r57_125, r57_126, r57_127, r57_128, r57_131, r57_134, r57_135, r57_136, r57_137, r57_138, r57_141, r57_144, r57_145, r57_146, r57_149, r57_150, r57_153, r57_154, r57_155, r57_156, r57_159, r57_162, r57_163, r57_164, r57_165, r57_167, am_gf_4_1, am_gf_4_2, am_gf_4_3, am_gf_4_4, am_gf_4_5, am_gf_4_6, am_gf_4_8, am_gf_4_9, am_gf_15_0, am_gf_18_0, am_gf_0_2, am_gf_0_3, am_ai_5, am_ai_6, am_ai_7, am_ai_8, am_ai_9, am_ai_10, am_ai_12, am_ai_13, am_ai_16, am_ai_19, am_nl_i, am_nl_r, am_nl_n, am_nl_l, Option.bind_some, Option.toList_some, Option.toList_none, List.cons_append, List.nil_append, if_true, if_false, Bool.false_eq_true, Int.reduceEq, Int.reduceAdd, ↓reduceIte, c_has_s hn hp, e10, am_sw, t2, q9, q7, h0, h1, hg]
        · by_cases h3 : x = 3
          · subst h3
            have t3 : (3 : Int32).toInt = 3 := by decide
            simp (disch := first | assumption | omega | rfl | exact Nat.le_of_ble_eq_true rfl | decide) only [r57_0, r57_1, r57_4, r57_5, r57_8, r57_11, r57_13, r57_14, r57_15, r57_60, r57_61, r57_64, r57_67, r57_68, r57_69, r57_70, r57_71, r57_74, r57_77, r57_78, r57_79, r57_80, r57_81, r57_84, r57_87, r57_88, r57_89, r57_92, r57_94, r57_97, r57_98, r57_101, r57_104, r57_105, r57_106, r57_107, r57_108, r57_111, r57_114, r57_115, r57_116, r57_117, r57_118, r57_121, r57_124, r57_125, r57_126, r57_127, r57_128, r57_131, r57_134, r57_135, r57_136, r57_137, r57_138, r57_141, r57_144, r57_145, r57_146, r57_149, r57_150, r57_153, r57_154, r57_155, r57_156, r57_159, r57_162, r57_163, r57_164, r57_165, r57_167, am_gf_4_1, am_gf_4_2, am_gf_4_3, am_gf_4_4, am_gf_4_5, am_gf_4_6, am_gf_4_8, am_gf_4_9, am_gf_15_0, am_gf_18_0, am_gf_0_2, am_gf_0_3, am_ai_5, am_ai_6, am_ai_7, am_ai_8, am_ai_9, am_ai_10, am_ai_12, am_ai_13, am_ai_16, am_ai_19, am_nl_i, am_nl_r, am_nl_n, am_nl_l, Option.bind_some, Option.toList_some, Option.toList_none, List.cons_append, List.nil_append, if_true, if_false, Bool.false_eq_true, Int.reduceEq, Int.reduceAdd, ↓reduceIte, c_has_s hn hp, e10, am_sw, t3, q8, h0, h1, h2]
          · by_cases h4 : x = 4
            · subst h4
              have t4 : (4 : Int32).toInt = 4 := by decide
              simp (disch := first | assumption | omega | rfl | exact Nat.le_of_ble_eq_true rfl | decide) only [r57_0, r57_1, r57_4, r57_5, r57_8, r57_11, r57_13, r57_14, r57_15, r57_60, r57_61, r57_64, r57_67, r57_68, r57_69, r57_70, r57_71, r57_74, r57_77, r57_78, r57_79, r57_80, r57_81, r57_84, r57_87, r57_88, r57_89, r57_92, r57_94, r57_97, r57_98, r57_101, r57_104, r57_105, r57_106, r57_107, r57_108, r57_111, r57_114, r57_115, r57_116, r57_117, r57_118, r57_121, r57_124, r57_125, r57_126, r57_127, r57_128, r57_131, r57_134, r57_135, r57_136, r57_137, r57_138, r57_141, r57_144, r57_145, r57_146, r57_149, r57_150, r57_153, r57_154, r57_155, r57_156, r57_159, r57_162, r57_163, r57_164, r57_165, r57_167, am_gf_4_1, am_gf_4_2, am_gf_4_3, am_gf_4_4, am_gf_4_5, am_gf_4_6, am_gf_4_8, am_gf_4_9, am_gf_15_0, am_gf_18_0, am_gf_0_2, am_gf_0_3, am_ai_5, am_ai_6, am_ai_7, am_ai_8, am_ai_9, am_ai_10, am_ai_12, am_ai_13, am_ai_16, am_ai_19, am_nl_i, am_nl_r, am_nl_n, am_nl_l, Option.bind_some, Option.toList_some, Option.toList_none, List.cons_append, List.nil_append, if_true, if_false, Bool.false_eq_true, Int.reduceEq, Int.reduceAdd, ↓reduceIte, c_has_s hn hp, e10, am_sw, t4, q16, h0, h1, h2, h3]
            · by_cases h5 : x = 5
              · subst h5
                have t5 : (5 : Int32).toInt = 5 := by decide
                simp (disch := first | assumption | omega | rfl | exact Nat.le_of_ble_eq_true rfl | decide) only [r57_0, r57_1, r57_4, r57_5, r57_8, r57_11, r57_13, r57_14, r57_15, r57_60, r57_61, r57_64, r57_67, r57_68, r57_69, r57_70, r57_71, r57_74, r57_77, r57_78, r57_79, r57_80, r57_81, r57_84, r57_87, r57_88, r57_89, r57_92, r57_94, r57_97, r57_98, r57_101, r57_104, r57_105, r57_106, r57_107, r57_108, r57_111, r57_114, r57_115, r57_116, r57_117, r57_118, r57_121, r57_124, r57_125, r57_126, r57_127, r57_128, r57_131, r57_134, r57_135, r57_136, r57_137, r57_138, r57_141, r57_144, r57_145, r57_146, r57_149, r57_150, r57_153, r57_154, r57_155, r57_156, r57_159, r57_162, r57_163, r57_164, r57_165, r57_167, am_gf_4_1, am_gf_4_2, am_gf_4_3, am_gf_4_4, am_gf_4_5, am_gf_4_6, am_gf_4_8, am_gf_4_9, am_gf_15_0, am_gf_18_0, am_gf_0_2, am_gf_0_3, am_ai_5, am_ai_6, am_ai_7, am_ai_8, am_ai_9, am_ai_10, am_ai_12, am_ai_13, am_ai_16, am_ai_19, am_nl_i, am_nl_r, am_nl_n, am_nl_l, Option.bind_some, Option.toList_some, Option.toList_none, List.cons_append, List.nil_append, if_true, if_false, Bool.false_eq_true, Int.reduceEq, Int.reduceAdd, ↓reduceIte, c_has_s hn hp, e10, am_sw, t5, q12, h0, h1, h2, h3, h4]
              · by_cases h6 : x = 6
                · subst h6
                  have t6 : (6 : Int32).toInt = 6 := by decide
                  rcases hlv with hl | hl
                  · rw [hl] at q13
                    simp (disch := first | assumption | omega | rfl | exact Nat.le_of_ble_eq_true rfl | decide) only [r57_0, r57_1, r57_4, r57_5, r57_8, r57_11, r57_13, r57_14, r57_15, r57_60, r57_61, r57_64, r57_67, r57_68, r57_69, r57_70, r57_71, r57_74, r57_77, r57_78, r57_79, r57_80, r57_81, r57_84, r57_87, r57_88, r57_89, r57_92, r57_94, r57_97, r57_98, r57_101, r57_104, r57_105, r57_106, r57_107, r57_108, r57_111, r57_114, r57_115, r57_116, r57_117, r57_118, r57_121, r57_124, r57_125, r57_126, r57_127, r57_128, r57_131, r57_134, r57_135, r57_136, r57_137, r57_138, r57_141, r57_144, r57_145, r57_146, r57_149, r57_150, r57_153, r57_154, r57_155, r57_156, r57_159, r57_162, r57_163, r57_164, r57_165, r57_167, am_gf_4_1, am_gf_4_2, am_gf_4_3, am_gf_4_4, am_gf_4_5, am_gf_4_6, am_gf_4_8, am_gf_4_9, am_gf_15_0, am_gf_18_0, am_gf_0_2, am_gf_0_3, am_ai_5, am_ai_6, am_ai_7, am_ai_8, am_ai_9, am_ai_10, am_ai_12, am_ai_13, am_ai_16, am_ai_19, am_nl_i, am_nl_r, am_nl_n, am_nl_l, Option.bind_some, Option.toList_some, Option.toList_none, List.cons_append, List.nil_append, if_true, if_false, Bool.false_eq_true, Int.reduceEq, Int.reduceAdd, ↓reduceIte, c_has_s hn hp, e10, am_sw, t6, q13, hl, h0, h1, h2, h3, h4, h5]
                  · rw [hl] at q13
                    simp (disch := first | assumption | omega | rfl | exact Nat.le_of_ble_eq_true rfl | decide) only [r57_0, r57_1, r57_4, r57_5, r57_8, r57_11, r57_13, r57_14, r57_15, r57_60, r57_61, r57_64, r57_67, r57_68, r57_69, r57_70, r57_71, r57_74, r57_77, r57_78, r57_79, r57_80, r57_81, r57_84, r57_87, r57_88, r57_89, r57_92, r57_94, r57_97, r57_98, r57_101, r57_104, r57_105, r57_106, r57_107, r57_108, r57_111, r57_114, r57_115, r57_116, r57_117, r57_118, r57_121, r57_124, r57_125, r57_126, r57_127, r57_128, r57_131, r57_134, r57_135, r57_136, r57_137, r57_138, r57_141, r57_144, r57_145, r57_146, r57_149, r57_150, r57_153, r57_154, r57_155, r57_156, r57_159, r57_162, r57_163, r57_164, r57_165, r57_167, am_gf_4_1, am_gf_4_2, am_gf_4_3, am_gf_4_4, am_gf_4_5, am_gf_4_6, am_gf_4_8, am_gf_4_9, am_gf_15_0, am_gf_18_0, am_gf_0_2, am_gf_0_3, am_ai_5, am_ai_6, am_ai_7, am_ai_8, am_ai_9, am_ai_10, am_ai_12, am_ai_13, am_ai_16, am_ai_19, am_nl_i, am_nl_r, am_nl_n, am_nl_l, Option.bind_some, Option.toList_some, Option.toList_none, List.cons_append, List.nil_append, if_true, if_false, Bool.false_eq_true, Int.reduceEq, Int.reduceAdd, ↓reduceIte, c_has_s hn hp, e10, am_sw, t6, q13, hl, h0, h1, h2, h3, h4, h5]
                · by_cases h7 : x = 7
                  · subst h7
                    have t7 : (7 : Int32).toInt = 7 := by decide
                    simp (disch := first | assumption | omega | rfl | exact Nat.le_of_ble_eq_true rfl | decide) only [r57_0, r57_1, r57_4, r57_5, r57_8, r57_11, r57_13, r57_14, r57_15, r57_60, r57_61, r57_64, r57_67, r57_68, r57_69, r57_70, r57_71, r57_74, r57_77, r57_78, r57_79, r57_80, r57_81, r57_84, r57_87, r57_88, r57_89, r57_92, r57_94, r57_97, r57_98, r57_101, r57_104, r57_105, r57_106, r57_107, r57_108, r57_111, r57_114, r57_115, r57_116, r57_117, r57_118, r57_121, r57_124, r57_125, r57_126, r57_127, r57_128, r57_131, r57_134, r57_135, r57_136, r57_137, r57_138, r57_141, r57_144, r57_145, r57_146, r57_149, r57_150, r57_153, r57_154, r57_155, r57_156, r57_159, r57_162, r57_163, r57_164, r57_165, r57_167, am_gf_4_1, am_gf_4_2, am_gf_4_3, am_gf_4_4, am_gf_4_5, am_gf_4_6, am_gf_4_8, am_gf_4_9, am_gf_15_0, am_gf_18_0, am_gf_0_2, am_gf_0_3, am_ai_5, am_ai_6, am_ai_7, am_ai_8, am_ai_9, am_ai_10, am_ai_12, am_ai_13, am_ai_16, am_ai_19, am_nl_i, am_nl_r, am_nl_n, am_nl_l, Option.bind_some, Option.toList_some, Option.toList_none, List.cons_append, List.nil_append, if_true, if_false, Bool.false_eq_true, Int.reduceEq, Int.reduceAdd, ↓reduceIte, c_has_s hn hp, e10, am_sw, t7, q10, h0, h1, h2, h3, h4, h5, h6]
                  · have t0 : ¬ x.toInt = 0 := lv_neT h0 rfl
                    have t1 : ¬ x.toInt = 1 := lv_neT h1 rfl
                    have t2 : ¬ x.toInt = 2 := lv_neT h2 rfl
                    have t3 : ¬ x.toInt = 3 := lv_neT h3 rfl
                    have t4 : ¬ x.toInt = 4 := lv_neT h4 rfl
                    have t5 : ¬ x.toInt = 5 := lv_neT h5 rfl
                    have t6 : ¬ x.toInt = 6 := lv_neT h6 rfl
                    have t7 : ¬ x.toInt = 7 := lv_neT h7 rfl
                    simp (disch := first | assumption | omega | rfl | exact Nat.le_of_ble_eq_true rfl | decide) only [r57_0, r57_1, r57_4, r57_5, r57_8, r57_11, r57_13, r57_14, r57_15, r57_60, r57_61, r57_64, r57_67, r57_68, r57_69, r57_70, r57_71, r57_74, r57_77, r57_78, r57_79, r57_80, r57_81, r57_84, r57_87, r57_88, r57_89, r57_92, r57_94, r57_97, r57_98, r57_101, r57_104, r57_105, r57_106, r57_107, r57_108, r57_111, r57_114, r57_115, r57_116, r57_117, r57_118, r57_121, r57_124, r57_125, r57_126, r57_127, r57_128, r57_131, r57_134, r57_135, r57_136, r57_137, r57_138, r57_141, r57_144, r57_145, r57_146, r57_149, r57_150, r57_153, r57_154, r57_155, r57_156, r57_159, r57_162, r57_163, r57_164, r57_165, r57_167, am_gf_4_1, am_gf_4_2, am_gf_4_3, am_gf_4_4, am_gf_4_5, am_gf_4_6, am_gf_4_8, am_gf_4_9, am_gf_15_0, am_gf_18_0, am_gf_0_2, am_gf_0_3, am_ai_5, am_ai_6, am_ai_7, am_ai_8, am_ai_9, am_ai_10, am_ai_12, am_ai_13, am_ai_16, am_ai_19, am_nl_i, am_nl_r, am_nl_n, am_nl_l, Option.bind_some, Option.toList_some, Option.toList_none, List.cons_append, List.nil_append, if_true, if_false, Bool.false_eq_true, Int.reduceEq, Int.reduceAdd, ↓reduceIte, c_has_s hn hp, e10, am_sw, t0, t1, t2, t3, t4, t5, t6, t7, h0, h1, h2, h3, h4, h5, h6, h7]
def kdB (x : Int32) : Int32 := if x < 0 then 0 else if 4 < x then 0 else 1
theorem c_isKind {d : Nat} {σ : am_St} {τ : Int64} {x : Int32} : am_call d 80 [.int x] σ τ = some (some (.int (kdB x)), σ, τ) := by
  show am_run d 80 0 [.int x] [] σ τ = _
  simp (disch := first | assumption | omega | rfl | exact Nat.le_of_ble_eq_true rfl | decide) only [r80_0, r80_1, r80_4, r80_5, r80_6, r80_9, r80_10, r80_13, r80_14, am_nl_i, am_nl_r, am_nl_n, am_nl_l, Option.bind_some, Option.toList_some, Option.toList_none, List.cons_append, List.nil_append, if_true, if_false, Bool.false_eq_true, Int.reduceEq, Int.reduceAdd, ↓reduceIte, kdB]
  split
  · rfl
  · split <;> rfl
def nmB (x : Int32) : Int32 := if x < 0 then 0 else if 6 ≤ x then 0 else 1
theorem c_isName {d : Nat} {σ : am_St} {τ : Int64} {x : Int32} : am_call d 81 [.int x] σ τ = some (some (.int (nmB x)), σ, τ) := by
  show am_run d 81 0 [.int x] [] σ τ = _
  simp (disch := first | assumption | omega | rfl | exact Nat.le_of_ble_eq_true rfl | decide) only [r81_0, r81_1, r81_4, r81_5, r81_7, r81_10, r81_11, r81_14, r81_15, am_nl_i, am_nl_r, am_nl_n, am_nl_l, Option.bind_some, Option.toList_some, Option.toList_none, List.cons_append, List.nil_append, if_true, if_false, Bool.false_eq_true, Int.reduceEq, Int.reduceAdd, ↓reduceIte, nmB]
  split
  · rfl
  · split <;> rfl
def sp_as (T : tS) (p k : Int32) : Int32 := match idx (s_n T) p with
  | none => -101
  | some j => if kdB k = 0 then -102 else if k = 0 ∨ k = s_kd T j ∨ (k = 2 ∧ s_kd T j = 4) then nI j else -1
theorem c_as {d : Nat} {σ : am_St} {τ : Int64} {T : tS} {p k : Int32} (hR : RC σ T) (hW : WF T) : am_call (d + 1) 58 [.ref 0, .int p, .int k] σ τ = some (some (.int (sp_as T p k)), σ, τ) := by
  show am_run (d + 1) 58 0 [.ref 0, .int p, .int k, .null, .null] [] σ τ = _
  unfold sp_as
  have hn := hR.1
  have h12 := hW.1
  cases hp : idx (s_n T) p with
  | none => simp (disch := first | assumption | omega | rfl | exact Nat.le_of_ble_eq_true rfl | decide) only [r58_0, r58_1, r58_4, r58_5, r58_8, r58_11, r58_13, r58_14, r58_15, r58_18, r58_21, r58_23, r58_24, r58_25, r58_28, r58_31, r58_32, r58_33, r58_34, r58_35, r58_38, r58_39, r58_40, r58_43, r58_44, r58_45, r58_48, r58_49, r58_50, r58_53, r58_54, r58_57, r58_58, r58_60, r58_62, r58_65, r58_66, r58_69, r58_70, am_gf_4_1, am_gf_0_2, am_ai_5, am_nl_i, am_nl_r, am_nl_n, am_nl_l, Option.bind_some, Option.toList_some, Option.toList_none, List.cons_append, List.nil_append, if_true, if_false, Bool.false_eq_true, Int.reduceEq, Int.reduceAdd, ↓reduceIte, c_has_n hn hp]
  | some j =>
    obtain ⟨hj, rfl⟩ := idx_some h12 hp
    have hj12 : j < 12 := by omega
    obtain ⟨q5, -⟩ := hR.2.1 j hj
    dsimp only
    by_cases hk : kdB k = 0
    · simp (disch := first | assumption | omega | rfl | exact Nat.le_of_ble_eq_true rfl | decide) only [r58_0, r58_1, r58_4, r58_5, r58_8, r58_11, r58_13, r58_14, r58_15, r58_18, r58_21, r58_23, r58_24, r58_25, r58_28, r58_31, r58_32, r58_33, r58_34, r58_35, r58_38, r58_39, r58_40, r58_43, r58_44, r58_45, r58_48, r58_49, r58_50, r58_53, r58_54, r58_57, r58_58, r58_60, r58_62, r58_65, r58_66, r58_69, r58_70, am_gf_4_1, am_gf_0_2, am_ai_5, am_nl_i, am_nl_r, am_nl_n, am_nl_l, Option.bind_some, Option.toList_some, Option.toList_none, List.cons_append, List.nil_append, if_true, if_false, Bool.false_eq_true, Int.reduceEq, Int.reduceAdd, ↓reduceIte, c_has_s hn hp, e10, c_isKind, hk]
    · rw [if_neg hk]
      by_cases h0 : k = 0
      · subst h0
        simp (disch := first | assumption | omega | rfl | exact Nat.le_of_ble_eq_true rfl | decide) only [r58_0, r58_1, r58_4, r58_5, r58_8, r58_11, r58_13, r58_14, r58_15, r58_18, r58_21, r58_23, r58_24, r58_25, r58_28, r58_31, r58_32, r58_33, r58_34, r58_35, r58_38, r58_39, r58_40, r58_43, r58_44, r58_45, r58_48, r58_49, r58_50, r58_53, r58_54, r58_57, r58_58, r58_60, r58_62, r58_65, r58_66, r58_69, r58_70, am_gf_4_1, am_gf_0_2, am_ai_5, am_nl_i, am_nl_r, am_nl_n, am_nl_l, Option.bind_some, Option.toList_some, Option.toList_none, List.cons_append, List.nil_append, if_true, if_false, Bool.false_eq_true, Int.reduceEq, Int.reduceAdd, ↓reduceIte, c_has_s hn hp, e10, c_isKind, hk, q5, true_or]
      · by_cases h1 : k = s_kd T j
        · rw [if_pos (Or.inr (Or.inl h1))]
          rw [h1] at h0 hk ⊢
          simp (disch := first | assumption | omega | rfl | exact Nat.le_of_ble_eq_true rfl | decide) only [r58_0, r58_1, r58_4, r58_5, r58_8, r58_11, r58_13, r58_14, r58_15, r58_18, r58_21, r58_23, r58_24, r58_25, r58_28, r58_31, r58_32, r58_33, r58_34, r58_35, r58_38, r58_39, r58_40, r58_43, r58_44, r58_45, r58_48, r58_49, r58_50, r58_53, r58_54, r58_57, r58_58, r58_60, r58_62, r58_65, r58_66, r58_69, r58_70, am_gf_4_1, am_gf_0_2, am_ai_5, am_nl_i, am_nl_r, am_nl_n, am_nl_l, Option.bind_some, Option.toList_some, Option.toList_none, List.cons_append, List.nil_append, if_true, if_false, Bool.false_eq_true, Int.reduceEq, Int.reduceAdd, ↓reduceIte, c_has_s hn hp, e10, c_isKind, hk, q5, h0]
        · by_cases h2 : k = 2
          · subst h2
            by_cases h4 : s_kd T j = 4
            · rw [if_pos (Or.inr (Or.inr ⟨rfl, h4⟩))]
              have e24 : ¬ (2 : Int32) = 4 := by decide
              simp (disch := first | assumption | omega | rfl | exact Nat.le_of_ble_eq_true rfl | decide) only [r58_0, r58_1, r58_4, r58_5, r58_8, r58_11, r58_13, r58_14, r58_15, r58_18, r58_21, r58_23, r58_24, r58_25, r58_28, r58_31, r58_32, r58_33, r58_34, r58_35, r58_38, r58_39, r58_40, r58_43, r58_44, r58_45, r58_48, r58_49, r58_50, r58_53, r58_54, r58_57, r58_58, r58_60, r58_62, r58_65, r58_66, r58_69, r58_70, am_gf_4_1, am_gf_0_2, am_ai_5, am_nl_i, am_nl_r, am_nl_n, am_nl_l, Option.bind_some, Option.toList_some, Option.toList_none, List.cons_append, List.nil_append, if_true, if_false, Bool.false_eq_true, Int.reduceEq, Int.reduceAdd, ↓reduceIte, c_has_s hn hp, e10, c_isKind, hk, q5, h0, h1, h4, e24]
            · rw [if_neg (by rintro (q | q | q); exact h0 q; exact h1 q; exact h4 q.2)]
              simp (disch := first | assumption | omega | rfl | exact Nat.le_of_ble_eq_true rfl | decide) only [r58_0, r58_1, r58_4, r58_5, r58_8, r58_11, r58_13, r58_14, r58_15, r58_18, r58_21, r58_23, r58_24, r58_25, r58_28, r58_31, r58_32, r58_33, r58_34, r58_35, r58_38, r58_39, r58_40, r58_43, r58_44, r58_45, r58_48, r58_49, r58_50, r58_53, r58_54, r58_57, r58_58, r58_60, r58_62, r58_65, r58_66, r58_69, r58_70, am_gf_4_1, am_gf_0_2, am_ai_5, am_nl_i, am_nl_r, am_nl_n, am_nl_l, Option.bind_some, Option.toList_some, Option.toList_none, List.cons_append, List.nil_append, if_true, if_false, Bool.false_eq_true, Int.reduceEq, Int.reduceAdd, ↓reduceIte, c_has_s hn hp, e10, c_isKind, hk, q5, h0, h1, h4]
          · rw [if_neg (by rintro (q | q | q); exact h0 q; exact h1 q; exact h2 q.1)]
            simp (disch := first | assumption | omega | rfl | exact Nat.le_of_ble_eq_true rfl | decide) only [r58_0, r58_1, r58_4, r58_5, r58_8, r58_11, r58_13, r58_14, r58_15, r58_18, r58_21, r58_23, r58_24, r58_25, r58_28, r58_31, r58_32, r58_33, r58_34, r58_35, r58_38, r58_39, r58_40, r58_43, r58_44, r58_45, r58_48, r58_49, r58_50, r58_53, r58_54, r58_57, r58_58, r58_60, r58_62, r58_65, r58_66, r58_69, r58_70, am_gf_4_1, am_gf_0_2, am_ai_5, am_nl_i, am_nl_r, am_nl_n, am_nl_l, Option.bind_some, Option.toList_some, Option.toList_none, List.cons_append, List.nil_append, if_true, if_false, Bool.false_eq_true, Int.reduceEq, Int.reduceAdd, ↓reduceIte, c_has_s hn hp, e10, c_isKind, hk, q5, h0, h1, h2]
def sp_near (T : tS) (a b : Int32) : Int32 := match idx (s_n T) a, idx (s_n T) b with
  | some i, some j => s_ds T i j
  | _, _ => -101
theorem dstF_congr {u v u' v' : Nat → Int32} {n : Nat} (hu : ∀ j, j < n → u j = u' j) (hv : ∀ j, j < n → v j = v' j) : dstF u v n = dstF u' v' n := by
  induction n with
  | zero => rfl
  | succ n ih =>
    unfold dstF
    rw [ih (fun j hj => hu j (by omega)) (fun j hj => hv j (by omega)), hu n (by omega), hv n (by omega)]
theorem ds_eq {σ : am_St} {T : tS} {i j : Nat} (hR : RC σ T) (hW : WF T) (hi : i < s_n T) (hj : j < s_n T) : dstF (fun k => σ 14 (i * 12 + k)) (fun k => σ 14 (j * 12 + k)) (s_n T) = s_ds T i j := by
  have h12 := hW.1
  exact dstF_congr (fun k hk => (hR.2.1 i hi).2.2.2.2.2.2.2.2.2.2 k (by omega)) (fun k hk => (hR.2.1 j hj).2.2.2.2.2.2.2.2.2.2 k (by omega))
theorem c_near {d : Nat} {σ : am_St} {τ : Int64} {T : tS} {a b : Int32} (hR : RC σ T) (hW : WF T) : am_call (d + 2) 67 [.ref 0, .int a, .int b] σ τ = some (some (.int (sp_near T a b)), σ, τ) := by
  show am_run (d + 2) 67 0 [.ref 0, .int a, .int b] [] σ τ = _
  unfold sp_near
  have hn := hR.1
  have h12 := hW.1
  cases ha : idx (s_n T) a with
  | none => simp (disch := first | assumption | omega | rfl | exact Nat.le_of_ble_eq_true rfl | decide) only [r67_0, r67_1, r67_4, r67_5, r67_8, r67_11, r67_12, r67_15, r67_16, r67_19, r67_22, r67_24, r67_25, r67_26, r67_29, r67_30, r67_31, r67_34, am_gf_0_2, am_nl_i, am_nl_r, am_nl_n, am_nl_l, Option.bind_some, Option.toList_some, Option.toList_none, List.cons_append, List.nil_append, if_true, if_false, Bool.false_eq_true, Int.reduceEq, Int.reduceAdd, ↓reduceIte, c_has_n hn ha]
  | some i =>
    cases hb : idx (s_n T) b with
    | none => simp (disch := first | assumption | omega | rfl | exact Nat.le_of_ble_eq_true rfl | decide) only [r67_0, r67_1, r67_4, r67_5, r67_8, r67_11, r67_12, r67_15, r67_16, r67_19, r67_22, r67_24, r67_25, r67_26, r67_29, r67_30, r67_31, r67_34, am_gf_0_2, am_nl_i, am_nl_r, am_nl_n, am_nl_l, Option.bind_some, Option.toList_some, Option.toList_none, List.cons_append, List.nil_append, if_true, if_false, Bool.false_eq_true, Int.reduceEq, Int.reduceAdd, ↓reduceIte, c_has_s hn ha, c_has_n hn hb, e10]
    | some j =>
      obtain ⟨hi, rfl⟩ := idx_some h12 ha
      obtain ⟨hj, rfl⟩ := idx_some h12 hb
      have hd : am_call (d + 1) 18 [.ref 4, .int (nI i), .int (nI j)] σ τ = some (some (.int (s_ds T i j)), σ, τ) := by
        rw [c_distance hn h12 (by omega) (by omega), ds_eq hR hW hi hj]
      simp (disch := first | assumption | omega | rfl | exact Nat.le_of_ble_eq_true rfl | decide) only [r67_0, r67_1, r67_4, r67_5, r67_8, r67_11, r67_12, r67_15, r67_16, r67_19, r67_22, r67_24, r67_25, r67_26, r67_29, r67_30, r67_31, r67_34, am_gf_0_2, am_nl_i, am_nl_r, am_nl_n, am_nl_l, Option.bind_some, Option.toList_some, Option.toList_none, List.cons_append, List.nil_append, if_true, if_false, Bool.false_eq_true, Int.reduceEq, Int.reduceAdd, ↓reduceIte, c_has_s hn ha, c_has_s hn hb, e10, hd]
def s_kn (T : tS) (p : Nat) : Int32 := (nlF (s_lv T) (s_ds T p) p (s_n T)).1
def sp_kin (T : tS) (p : Int32) : Int32 := match idx (s_n T) p with
  | none => -101
  | some j => s_kn T j
theorem nlF_congr {al al' dst dst' : Nat → Int32} {p n : Nat} (ha : ∀ j, j < n → al j = al' j) (hd : ∀ j, j < n → dst j = dst' j) : nlF al dst p n = nlF al' dst' p n := by
  induction n with
  | zero => rfl
  | succ n ih =>
    unfold nlF
    rw [ih (fun j hj => ha j (by omega)) (fun j hj => hd j (by omega)), ha n (by omega), hd n (by omega)]
theorem c_kinOf {d j : Nat} {σ : am_St} {τ : Int64} {T : tS} (hR : RC σ T) (hW : WF T) (hj : j < s_n T) : am_call (d + 2) 19 [.ref 4, .int (nI j)] σ τ = some (some (.int (s_kn T j)), σ, τ) := by
  have h12 := hW.1
  rw [c_nearestLiving hR.1 h12 (by omega)]
  unfold s_kn
  rw [nlF_congr (fun i hi => (hR.2.1 i hi).2.2.2.2.2.2.2.2.1) (fun i hi => ds_eq hR hW hj hi)]
theorem c_kin {d : Nat} {σ : am_St} {τ : Int64} {T : tS} {p : Int32} (hR : RC σ T) (hW : WF T) : am_call (d + 3) 68 [.ref 0, .int p] σ τ = some (some (.int (sp_kin T p)), σ, τ) := by
  show am_run (d + 3) 68 0 [.ref 0, .int p] [] σ τ = _
  unfold sp_kin
  have hn := hR.1
  have h12 := hW.1
  cases hp : idx (s_n T) p with
  | none => simp (disch := first | assumption | omega | rfl | exact Nat.le_of_ble_eq_true rfl | decide) only [r68_0, r68_1, r68_4, r68_5, r68_8, r68_11, r68_13, r68_14, r68_15, r68_18, r68_19, r68_22, am_gf_0_2, am_nl_i, am_nl_r, am_nl_n, am_nl_l, Option.bind_some, Option.toList_some, Option.toList_none, List.cons_append, List.nil_append, if_true, if_false, Bool.false_eq_true, Int.reduceEq, Int.reduceAdd, ↓reduceIte, c_has_n hn hp]
  | some j =>
    obtain ⟨hj, rfl⟩ := idx_some h12 hp
    simp (disch := first | assumption | omega | rfl | exact Nat.le_of_ble_eq_true rfl | decide) only [r68_0, r68_1, r68_4, r68_5, r68_8, r68_11, r68_13, r68_14, r68_15, r68_18, r68_19, r68_22, am_gf_0_2, am_nl_i, am_nl_r, am_nl_n, am_nl_l, Option.bind_some, Option.toList_some, Option.toList_none, List.cons_append, List.nil_append, if_true, if_false, Bool.false_eq_true, Int.reduceEq, Int.reduceAdd, ↓reduceIte, c_has_s hn hp, e10, c_kinOf (d := d) hR hW hj]
