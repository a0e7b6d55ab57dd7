/-! OtherName$Page -/
def ruS (c : Int32) : Int32 := if c = 102 then 0 else if c = 103 then 2 else if c = 109 then 1 else if c = 112 then 3 else -1
theorem c_ruleOf {d : Nat} {σ : am_St} {τ : Int64} {c : Int32} : am_call d 50 [.int c] σ τ = some (some (.int (ruS c)), σ, τ) := by
  show am_run d 50 0 [.int c] [] σ τ = _
  unfold ruS
  by_cases h1 : c = 102
  · subst h1
    have q : (102 : Int32).toInt = 102 := by decide
    simp (disch := first | assumption | omega | rfl | exact Nat.le_of_ble_eq_true rfl | decide) only [r50_0, r50_1, r50_44, r50_45, r50_46, r50_47, r50_48, r50_49, r50_50, r50_51, r50_52, r50_53, am_nl_i, am_nl_r, am_nl_n, am_nl_l, Option.bind_some, Option.toList_some, Option.toList_none, List.cons_append, List.nil_append, if_true, if_false, Bool.false_eq_true, Int.reduceEq, Int.reduceAdd, ↓reduceIte, am_lsw, q]
  · have q1 : ¬ c.toInt = 102 := lv_neT h1 rfl
    by_cases h2 : c = 103
    · subst h2
      have q2 : (103 : Int32).toInt = 103 := by decide
      simp (disch := first | assumption | omega | rfl | exact Nat.le_of_ble_eq_true rfl | decide) only [r50_0, r50_1, r50_44, r50_45, r50_46, r50_47, r50_48, r50_49, r50_50, r50_51, r50_52, r50_53, am_nl_i, am_nl_r, am_nl_n, am_nl_l, Option.bind_some, Option.toList_some, Option.toList_none, List.cons_append, List.nil_append, if_true, if_false, Bool.false_eq_true, Int.reduceEq, Int.reduceAdd, ↓reduceIte, am_lsw, q1, q2, h1]
    · have q2 : ¬ c.toInt = 103 := lv_neT h2 rfl
      by_cases h3 : c = 109
      · subst h3
        have q3 : (109 : Int32).toInt = 109 := by decide
        simp (disch := first | assumption | omega | rfl | exact Nat.le_of_ble_eq_true rfl | decide) only [r50_0, r50_1, r50_44, r50_45, r50_46, r50_47, r50_48, r50_49, r50_50, r50_51, r50_52, r50_53, am_nl_i, am_nl_r, am_nl_n, am_nl_l, Option.bind_some, Option.toList_some, Option.toList_none, List.cons_append, List.nil_append, if_true, if_false, Bool.false_eq_true, Int.reduceEq, Int.reduceAdd, ↓reduceIte, am_lsw, q1, q2, q3, h1, h2]
      · have q3 : ¬ c.toInt = 109 := lv_neT h3 rfl
        by_cases h4 : c = 112
        · subst h4
          have q4 : (112 : Int32).toInt = 112 := by decide
          simp (disch := first | assumption | omega | rfl | exact Nat.le_of_ble_eq_true rfl | decide) only [r50_0, r50_1, r50_44, r50_45, r50_46, r50_47, r50_48, r50_49, r50_50, r50_51, r50_52, r50_53, am_nl_i, am_nl_r, am_nl_n, am_nl_l, Option.bind_some, Option.toList_some, Option.toList_none, List.cons_append, List.nil_append, if_true, if_false, Bool.false_eq_true, Int.reduceEq, Int.reduceAdd, ↓reduceIte, am_lsw, q1, q2, q3, q4, h1, h2, h3]
        · have q4 : ¬ c.toInt = 112 := lv_neT h4 rfl
          simp (disch := first | assumption | omega | rfl | exact Nat.le_of_ble_eq_true rfl | decide) only [r50_0, r50_1, r50_44, r50_45, r50_46, r50_47, r50_48, r50_49, r50_50, r50_51, r50_52, r50_53, am_nl_i, am_nl_r, am_nl_n, am_nl_l, Option.bind_some, Option.toList_some, Option.toList_none, List.cons_append, List.nil_append, if_true, if_false, Bool.false_eq_true, Int.reduceEq, Int.reduceAdd, ↓reduceIte, am_lsw, q1, q2, q3, q4, h1, h2, h3, h4]
def evB (c : Int32) : Int32 := if c < 50 then 0 else if 53 < c then 0 else 1
theorem c_isEvery {d : Nat} {σ : am_St} {τ : Int64} {c : Int32} : am_call d 49 [.int c] σ τ = some (some (.int (evB c)), σ, τ) := by
  show am_run d 49 0 [.int c] [] σ τ = _
  simp (disch := first | assumption | omega | rfl | exact Nat.le_of_ble_eq_true rfl | decide) only [r49_0, r49_1, r49_3, r49_6, r49_7, r49_9, r49_12, r49_13, r49_16, r49_17, am_nl_i, am_nl_r, am_nl_n, am_nl_l, Option.bind_some, Option.toList_some, Option.toList_none, List.cons_append, List.nil_append, if_true, if_false, Bool.false_eq_true, Int.reduceEq, Int.reduceAdd, ↓reduceIte, evB]
  split
  · rfl
  · split <;> rfl
/-- the next place in a law -/
def nxS (s c : Int32) : Int32 := if s = 0 then (if ruS c = -1 then -1 else 1) else if s = 1 then (if evB c = 0 then (if c = 116 then 4 else -1) else 2) else if s = 2 then (if ruS c = -1 then -1 else 3) else if s = 3 then (if c = 116 then 4 else -1) else if s = 4 then (if ruS c = -1 then -1 else 5) else -1
theorem c_next {d : Nat} {σ : am_St} {τ : Int64} {s c : Int32} : am_call (d + 1) 48 [.int s, .int c] σ τ = some (some (.int (nxS s c)), σ, τ) := by
  show am_run (d + 1) 48 0 [.int s, .int c, .null] [] σ τ = _
  have e10 : ¬ (1 : Int32) = 0 := by decide
  have r116 : ruS 116 = -1 := by decide
  have e116 : evB 116 = 0 := by decide
  unfold nxS
  by_cases h0 : s = 0
  · subst h0
    have q : (0 : Int32).toInt = 0 := by decide
    by_cases hr : ruS c = -1 <;> simp (disch := first | assumption | omega | rfl | exact Nat.le_of_ble_eq_true rfl | decide) only [r48_0, r48_1, r48_4, r48_5, r48_8, r48_9, r48_12, r48_13, r48_14, r48_15, r48_48, r48_49, r48_52, r48_53, r48_56, r48_57, r48_58, r48_59, r48_62, r48_65, r48_66, r48_69, r48_70, r48_72, r48_75, r48_76, r48_79, r48_80, r48_81, r48_82, r48_85, r48_86, r48_89, r48_90, r48_91, r48_92, r48_94, r48_97, r48_98, r48_101, r48_102, r48_103, r48_104, r48_107, r48_108, r48_111, r48_112, r48_113, r48_114, am_nl_i, am_nl_r, am_nl_n, am_nl_l, Option.bind_some, Option.toList_some, Option.toList_none, List.cons_append, List.nil_append, if_true, if_false, Bool.false_eq_true, Int.reduceEq, Int.reduceAdd, ↓reduceIte, c_ruleOf, am_sw, q, hr, e10]
  · have q0 : ¬ s.toInt = 0 := lv_neT h0 rfl
    by_cases h1 : s = 1
    · subst h1; have q1 : (1 : Int32).toInt = 1 := by decide
      by_cases ht : c = 116
      · subst ht
        simp (disch := first | assumption | omega | rfl | exact Nat.le_of_ble_eq_true rfl | decide) only [r48_0, r48_1, r48_4, r48_5, r48_8, r48_9, r48_12, r48_13, r48_14, r48_15, r48_48, r48_49, r48_52, r48_53, r48_56, r48_57, r48_58, r48_59, r48_62, r48_65, r48_66, r48_69, r48_70, r48_72, r48_75, r48_76, r48_79, r48_80, r48_81, r48_82, r48_85, r48_86, r48_89, r48_90, r48_91, r48_92, r48_94, r48_97, r48_98, r48_101, r48_102, r48_103, r48_104, r48_107, r48_108, r48_111, r48_112, r48_113, r48_114, am_nl_i, am_nl_r, am_nl_n, am_nl_l, Option.bind_some, Option.toList_some, Option.toList_none, List.cons_append, List.nil_append, if_true, if_false, Bool.false_eq_true, Int.reduceEq, Int.reduceAdd, ↓reduceIte, c_ruleOf, c_isEvery, am_sw, q1, r116, e116, e10, h0]
      · by_cases hr : ruS c = -1 <;> by_cases he : evB c = 0 <;> simp (disch := first | assumption | omega | rfl | exact Nat.le_of_ble_eq_true rfl | decide) only [r48_0, r48_1, r48_4, r48_5, r48_8, r48_9, r48_12, r48_13, r48_14, r48_15, r48_48, r48_49, r48_52, r48_53, r48_56, r48_57, r48_58, r48_59, r48_62, r48_65, r48_66, r48_69, r48_70, r48_72, r48_75, r48_76, r48_79, r48_80, r48_81, r48_82, r48_85, r48_86, r48_89, r48_90, r48_91, r48_92, r48_94, r48_97, r48_98, r48_101, r48_102, r48_103, r48_104, r48_107, r48_108, r48_111, r48_112, r48_113, r48_114, am_nl_i, am_nl_r, am_nl_n, am_nl_l, Option.bind_some, Option.toList_some, Option.toList_none, List.cons_append, List.nil_append, if_true, if_false, Bool.false_eq_true, Int.reduceEq, Int.reduceAdd, ↓reduceIte, c_ruleOf, c_isEvery, am_sw, q1, hr, e10, he, ht, h0]
    · have q1 : ¬ s.toInt = 1 := lv_neT h1 rfl
      by_cases h2 : s = 2
      · subst h2; have q2 : (2 : Int32).toInt = 2 := by decide
        by_cases hr : ruS c = -1 <;> simp (disch := first | assumption | omega | rfl | exact Nat.le_of_ble_eq_true rfl | decide) only [r48_0, r48_1, r48_4, r48_5, r48_8, r48_9, r48_12, r48_13, r48_14, r48_15, r48_48, r48_49, r48_52, r48_53, r48_56, r48_57, r48_58, r48_59, r48_62, r48_65, r48_66, r48_69, r48_70, r48_72, r48_75, r48_76, r48_79, r48_80, r48_81, r48_82, r48_85, r48_86, r48_89, r48_90, r48_91, r48_92, r48_94, r48_97, r48_98, r48_101, r48_102, r48_103, r48_104, r48_107, r48_108, r48_111, r48_112, r48_113, r48_114, am_nl_i, am_nl_r, am_nl_n, am_nl_l, Option.bind_some, Option.toList_some, Option.toList_none, List.cons_append, List.nil_append, if_true, if_false, Bool.false_eq_true, Int.reduceEq, Int.reduceAdd, ↓reduceIte, c_ruleOf, am_sw, q2, hr, e10, h0, h1]
      · have q2 : ¬ s.toInt = 2 := lv_neT h2 rfl
        by_cases h3 : s = 3
        · subst h3; have q3 : (3 : Int32).toInt = 3 := by decide
          by_cases ht : c = 116
          · subst ht
            simp (disch := first | assumption | omega | rfl | exact Nat.le_of_ble_eq_true rfl | decide) only [r48_0, r48_1, r48_4, r48_5, r48_8, r48_9, r48_12, r48_13, r48_14, r48_15, r48_48, r48_49, r48_52, r48_53, r48_56, r48_57, r48_58, r48_59, r48_62, r48_65, r48_66, r48_69, r48_70, r48_72, r48_75, r48_76, r48_79, r48_80, r48_81, r48_82, r48_85, r48_86, r48_89, r48_90, r48_91, r48_92, r48_94, r48_97, r48_98, r48_101, r48_102, r48_103, r48_104, r48_107, r48_108, r48_111, r48_112, r48_113, r48_114, am_nl_i, am_nl_r, am_nl_n, am_nl_l, Option.bind_some, Option.toList_some, Option.toList_none, List.cons_append, List.nil_append, if_true, if_false, Bool.false_eq_true, Int.reduceEq, Int.reduceAdd, ↓reduceIte, c_ruleOf, am_sw, q3, r116, e10, h0, h1, h2]
          · by_cases hr : ruS c = -1 <;> simp (disch := first | assumption | omega | rfl | exact Nat.le_of_ble_eq_true rfl | decide) only [r48_0, r48_1, r48_4, r48_5, r48_8, r48_9, r48_12, r48_13, r48_14, r48_15, r48_48, r48_49, r48_52, r48_53, r48_56, r48_57, r48_58, r48_59, r48_62, r48_65, r48_66, r48_69, r48_70, r48_72, r48_75, r48_76, r48_79, r48_80, r48_81, r48_82, r48_85, r48_86, r48_89, r48_90, r48_91, r48_92, r48_94, r48_97, r48_98, r48_101, r48_102, r48_103, r48_104, r48_107, r48_108, r48_111, r48_112, r48_113, r48_114, am_nl_i, am_nl_r, am_nl_n, am_nl_l, Option.bind_some, Option.toList_some, Option.toList_none, List.cons_append, List.nil_append, if_true, if_false, Bool.false_eq_true, Int.reduceEq, Int.reduceAdd, ↓reduceIte, c_ruleOf, am_sw, q3, hr, e10, ht, h0, h1, h2]
        · have q3 : ¬ s.toInt = 3 := lv_neT h3 rfl
          by_cases h4 : s = 4
          · subst h4; have q4 : (4 : Int32).toInt = 4 := by decide
            by_cases hr : ruS c = -1 <;> simp (disch := first | assumption | omega | rfl | exact Nat.le_of_ble_eq_true rfl | decide) only [r48_0, r48_1, r48_4, r48_5, r48_8, r48_9, r48_12, r48_13, r48_14, r48_15, r48_48, r48_49, r48_52, r48_53, r48_56, r48_57, r48_58, r48_59, r48_62, r48_65, r48_66, r48_69, r48_70, r48_72, r48_75, r48_76, r48_79, r48_80, r48_81, r48_82, r48_85, r48_86, r48_89, r48_90, r48_91, r48_92, r48_94, r48_97, r48_98, r48_101, r48_102, r48_103, r48_104, r48_107, r48_108, r48_111, r48_112, r48_113, r48_114, am_nl_i, am_nl_r, am_nl_n, am_nl_l, Option.bind_some, Option.toList_some, Option.toList_none, List.cons_append, List.nil_append, if_true, if_false, Bool.false_eq_true, Int.reduceEq, Int.reduceAdd, ↓reduceIte, c_ruleOf, am_sw, q4, hr, e10, h0, h1, h2, h3]
          · have q4 : ¬ s.toInt = 4 := lv_neT h4 rfl
            by_cases hr : ruS c = -1 <;> simp (disch := first | assumption | omega | rfl | exact Nat.le_of_ble_eq_true rfl | decide) only [r48_0, r48_1, r48_4, r48_5, r48_8, r48_9, r48_12, r48_13, r48_14, r48_15, r48_48, r48_49, r48_52, r48_53, r48_56, r48_57, r48_58, r48_59, r48_62, r48_65, r48_66, r48_69, r48_70, r48_72, r48_75, r48_76, r48_79, r48_80, r48_81, r48_82, r48_85, r48_86, r48_89, r48_90, r48_91, r48_92, r48_94, r48_97, r48_98, r48_101, r48_102, r48_103, r48_104, r48_107, r48_108, r48_111, r48_112, r48_113, r48_114, am_nl_i, am_nl_r, am_nl_n, am_nl_l, Option.bind_some, Option.toList_some, Option.toList_none, List.cons_append, List.nil_append, if_true, if_false, Bool.false_eq_true, Int.reduceEq, Int.reduceAdd, ↓reduceIte, c_ruleOf, am_sw, q0, q1, q2, q3, q4, hr, e10, h0, h1, h2, h3, h4]
/-- the place in a law behind the first k letters -/
def stF (pg : Nat → Int32) : Nat → Int32
  | 0 => 0
  | k + 1 => nxS (stF pg k) (pg k)
theorem stF_s (pg : Nat → Int32) (k : Nat) : stF pg (k + 1) = nxS (stF pg k) (pg k) := rfl
/-- the first letter that no law has there, from i on of k -/
def fltF (pg : Nat → Int32) : Nat → Nat → Int32
  | 0, i => nI i
  | k + 1, i => if stF pg (i + 1) = -1 then nI i else fltF pg k (i + 1)
theorem c_firstFault_loop {d n : Nat} {σ : am_St} {τ : Int64} (hn : σ 1 1 = nI n) (h16 : n ≤ 16) : ∀ k i, i + k = n → am_run (d + 2) 45 4 [.ref 1, .int (stF (σ 2) i), .int (nI i)] [] σ τ = some (some (.int (fltF (σ 2) k i)), σ, τ) := by
  intro k
  induction k with
  | zero =>
    intro i hi
    have e : i = n := by omega
    subst e
    rw [r45_4]
    simp (disch := first | assumption | omega | rfl | exact Nat.le_of_ble_eq_true rfl | decide) only [r45_0, r45_1, r45_2, r45_3, r45_5, r45_6, r45_9, r45_12, r45_13, r45_14, r45_17, r45_18, r45_19, r45_22, r45_23, r45_24, r45_25, r45_28, r45_29, r45_30, r45_33, r45_36, r45_37, r45_40, am_gf_1_0, am_gf_1_1, am_ai_2, am_nl_i, am_nl_r, am_nl_n, am_nl_l, Option.bind_some, Option.toList_some, Option.toList_none, List.cons_append, List.nil_append, if_true, if_false, Bool.false_eq_true, Int.reduceEq, Int.reduceAdd, ↓reduceIte, hn, ni_le, Nat.le_refl, fltF]
  | succ k ih =>
    intro i hi
    have hc : ¬ n ≤ i := by omega
    rw [r45_4]
    unfold fltF
    by_cases h : nxS (stF (σ 2) i) (σ 2 i) = -1
    · simp (disch := first | assumption | omega | rfl | exact Nat.le_of_ble_eq_true rfl | decide) only [r45_0, r45_1, r45_2, r45_3, r45_5, r45_6, r45_9, r45_12, r45_13, r45_14, r45_17, r45_18, r45_19, r45_22, r45_23, r45_24, r45_25, r45_28, r45_29, r45_30, r45_33, r45_36, r45_37, r45_40, am_gf_1_0, am_gf_1_1, am_ai_2, am_nl_i, am_nl_r, am_nl_n, am_nl_l, Option.bind_some, Option.toList_some, Option.toList_none, List.cons_append, List.nil_append, if_true, if_false, Bool.false_eq_true, Int.reduceEq, Int.reduceAdd, ↓reduceIte, hn, ni_le, hc, c_next, stF_s, h]
    · simp (disch := first | assumption | omega | rfl | exact Nat.le_of_ble_eq_true rfl | decide) only [r45_0, r45_1, r45_2, r45_3, r45_5, r45_6, r45_9, r45_12, r45_13, r45_14, r45_17, r45_18, r45_19, r45_22, r45_23, r45_24, r45_25, r45_28, r45_29, r45_30, r45_33, r45_36, r45_37, r45_40, am_gf_1_0, am_gf_1_1, am_ai_2, am_nl_i, am_nl_r, am_nl_n, am_nl_l, Option.bind_some, Option.toList_some, Option.toList_none, List.cons_append, List.nil_append, if_true, if_false, Bool.false_eq_true, Int.reduceEq, Int.reduceAdd, ↓reduceIte, hn, ni_le, hc, c_next, stF_s, h, nI_1]
      exact ih (i + 1) (by omega)
theorem c_firstFault {d n : Nat} {σ : am_St} {τ : Int64} (hn : σ 1 1 = nI n) (h16 : n ≤ 16) : am_call (d + 2) 45 [.ref 1] σ τ = some (some (.int (fltF (σ 2) n 0)), σ, τ) := by
  show am_run (d + 2) 45 0 [.ref 1, .null, .null] [] σ τ = _
  simp (disch := first | assumption | omega | rfl | exact Nat.le_of_ble_eq_true rfl | decide) only [r45_0, r45_1, r45_2, r45_3, r45_5, r45_6, r45_9, r45_12, r45_13, r45_14, r45_17, r45_18, r45_19, r45_22, r45_23, r45_24, r45_25, r45_28, r45_29, r45_30, r45_33, r45_36, r45_37, r45_40, am_gf_1_0, am_gf_1_1, am_ai_2, am_nl_i, am_nl_r, am_nl_n, am_nl_l, Option.bind_some, Option.toList_some, Option.toList_none, List.cons_append, List.nil_append, if_true, if_false, Bool.false_eq_true, Int.reduceEq, Int.reduceAdd, ↓reduceIte]
  exact c_firstFault_loop hn h16 n 0 (by omega)
def isLw (s : Int32) : Int32 := if s = 1 ∨ s = 3 ∨ s = 5 then 1 else 0
theorem c_isLaw_loop {d n : Nat} {σ : am_St} {τ : Int64} (hn : σ 1 1 = nI n) (h16 : n ≤ 16) : ∀ k i, i + k = n → am_run (d + 2) 46 4 [.ref 1, .int (stF (σ 2) i), .int (nI i)] [] σ τ = some (some (.int (isLw (stF (σ 2) n))), σ, τ) := by
  intro k
  induction k with
  | zero =>
    intro i hi
    have e : i = n := by omega
    subst e
    rw [r46_4]
    unfold isLw
    by_cases h1 : stF (σ 2) i = 1
    · simp (disch := first | assumption | omega | rfl | exact Nat.le_of_ble_eq_true rfl | decide) only [r46_0, r46_1, r46_2, r46_3, r46_5, r46_6, r46_9, r46_12, r46_13, r46_14, r46_17, r46_18, r46_19, r46_22, r46_23, r46_26, r46_29, r46_30, r46_31, r46_34, r46_35, r46_36, r46_39, r46_40, r46_41, r46_44, r46_45, r46_48, r46_49, am_gf_1_0, am_gf_1_1, am_ai_2, am_nl_i, am_nl_r, am_nl_n, am_nl_l, Option.bind_some, Option.toList_some, Option.toList_none, List.cons_append, List.nil_append, if_true, if_false, Bool.false_eq_true, Int.reduceEq, Int.reduceAdd, ↓reduceIte, hn, ni_le, Nat.le_refl, h1, true_or]
    · by_cases h3 : stF (σ 2) i = 3
      · simp (disch := first | assumption | omega | rfl | exact Nat.le_of_ble_eq_true rfl | decide) only [r46_0, r46_1, r46_2, r46_3, r46_5, r46_6, r46_9, r46_12, r46_13, r46_14, r46_17, r46_18, r46_19, r46_22, r46_23, r46_26, r46_29, r46_30, r46_31, r46_34, r46_35, r46_36, r46_39, r46_40, r46_41, r46_44, r46_45, r46_48, r46_49, am_gf_1_0, am_gf_1_1, am_ai_2, am_nl_i, am_nl_r, am_nl_n, am_nl_l, Option.bind_some, Option.toList_some, Option.toList_none, List.cons_append, List.nil_append, if_true, if_false, Bool.false_eq_true, Int.reduceEq, Int.reduceAdd, ↓reduceIte, hn, ni_le, Nat.le_refl, h1, h3, true_or, or_true, show ¬ (3 : Int32) = 1 by decide]
      · by_cases h5 : stF (σ 2) i = 5
        · simp (disch := first | assumption | omega | rfl | exact Nat.le_of_ble_eq_true rfl | decide) only [r46_0, r46_1, r46_2, r46_3, r46_5, r46_6, r46_9, r46_12, r46_13, r46_14, r46_17, r46_18, r46_19, r46_22, r46_23, r46_26, r46_29, r46_30, r46_31, r46_34, r46_35, r46_36, r46_39, r46_40, r46_41, r46_44, r46_45, r46_48, r46_49, am_gf_1_0, am_gf_1_1, am_ai_2, am_nl_i, am_nl_r, am_nl_n, am_nl_l, Option.bind_some, Option.toList_some, Option.toList_none, List.cons_append, List.nil_append, if_true, if_false, Bool.false_eq_true, Int.reduceEq, Int.reduceAdd, ↓reduceIte, hn, ni_le, Nat.le_refl, h1, h3, h5, true_or, or_true, show ¬ (5 : Int32) = 1 by decide, show ¬ (5 : Int32) = 3 by decide]
        · simp (disch := first | assumption | omega | rfl | exact Nat.le_of_ble_eq_true rfl | decide) only [r46_0, r46_1, r46_2, r46_3, r46_5, r46_6, r46_9, r46_12, r46_13, r46_14, r46_17, r46_18, r46_19, r46_22, r46_23, r46_26, r46_29, r46_30, r46_31, r46_34, r46_35, r46_36, r46_39, r46_40, r46_41, r46_44, r46_45, r46_48, r46_49, am_gf_1_0, am_gf_1_1, am_ai_2, am_nl_i, am_nl_r, am_nl_n, am_nl_l, Option.bind_some, Option.toList_some, Option.toList_none, List.cons_append, List.nil_append, if_true, if_false, Bool.false_eq_true, Int.reduceEq, Int.reduceAdd, ↓reduceIte, hn, ni_le, Nat.le_refl, h1, h3, h5, or_self]
  | succ k ih =>
    intro i hi
    have hc : ¬ n ≤ i := by omega
    rw [← ih (i + 1) (by omega), r46_4]
    simp (disch := first | assumption | omega | rfl | exact Nat.le_of_ble_eq_true rfl | decide) only [r46_0, r46_1, r46_2, r46_3, r46_5, r46_6, r46_9, r46_12, r46_13, r46_14, r46_17, r46_18, r46_19, r46_22, r46_23, r46_26, r46_29, r46_30, r46_31, r46_34, r46_35, r46_36, r46_39, r46_40, r46_41, r46_44, r46_45, r46_48, r46_49, am_gf_1_0, am_gf_1_1, am_ai_2, am_nl_i, am_nl_r, am_nl_n, am_nl_l, Option.bind_some, Option.toList_some, Option.toList_none, List.cons_append, List.nil_append, if_true, if_false, Bool.false_eq_true, Int.reduceEq, Int.reduceAdd, ↓reduceIte, hn, ni_le, hc, c_next, stF_s, nI_1]
theorem c_isLaw {d n : Nat} {σ : am_St} {τ : Int64} (hn : σ 1 1 = nI n) (h16 : n ≤ 16) : am_call (d + 2) 46 [.ref 1] σ τ = some (some (.int (isLw (stF (σ 2) n))), σ, τ) := by
  show am_run (d + 2) 46 0 [.ref 1, .null, .null] [] σ τ = _
  simp (disch := first | assumption | omega | rfl | exact Nat.le_of_ble_eq_true rfl | decide) only [r46_0, r46_1, r46_2, r46_3, r46_5, r46_6, r46_9, r46_12, r46_13, r46_14, r46_17, r46_18, r46_19, r46_22, r46_23, r46_26, r46_29, r46_30, r46_31, r46_34, r46_35, r46_36, r46_39, r46_40, r46_41, r46_44, r46_45, r46_48, r46_49, am_gf_1_0, am_gf_1_1, am_ai_2, am_nl_i, am_nl_r, am_nl_n, am_nl_l, Option.bind_some, Option.toList_some, Option.toList_none, List.cons_append, List.nil_append, if_true, if_false, Bool.false_eq_true, Int.reduceEq, Int.reduceAdd, ↓reduceIte]
  exact c_isLaw_loop hn h16 n 0 (by omega)
/-- the law that is read, behind the first k letters -/
def rdF (pg l0 : Nat → Int32) : Nat → Nat → Int32
  | 0 => upd (upd (upd l0 1 0) 2 (-1)) 3 1
  | k + 1 => if stF pg (k + 1) = 1 then upd (rdF pg l0 k) 0 (ruS (pg k)) else if stF pg (k + 1) = 2 then upd (rdF pg l0 k) 1 (pg k - 48) else if stF pg (k + 1) = 3 then upd (rdF pg l0 k) 2 (ruS (pg k)) else if stF pg (k + 1) = 5 then upd (rdF pg l0 k) 3 (ruS (pg k)) else rdF pg l0 k
theorem rdF_s (pg l0 : Nat → Int32) (k : Nat) : rdF pg l0 (k + 1) = if stF pg (k + 1) = 1 then upd (rdF pg l0 k) 0 (ruS (pg k)) else if stF pg (k + 1) = 2 then upd (rdF pg l0 k) 1 (pg k - 48) else if stF pg (k + 1) = 3 then upd (rdF pg l0 k) 2 (ruS (pg k)) else if stF pg (k + 1) = 5 then upd (rdF pg l0 k) 3 (ruS (pg k)) else rdF pg l0 k := rfl
theorem c_readInto_loop {d n : Nat} {τ : Int64} {pg l0 : Nat → Int32} (h16 : n ≤ 16) : ∀ k i (σ : am_St), i + k = n → σ 1 1 = nI n → σ 2 = pg → σ 3 = rdF pg l0 i → ∃ σ' : am_St, am_run (d + 2) 47 19 [.ref 1, .ref 3, .int (stF pg i), .int (nI i)] [] σ τ = some (none, σ', τ) ∧ (∀ c, c ≠ 3 → σ' c = σ c) ∧ σ' 3 = rdF pg l0 n := by
  intro k
  induction k with
  | zero =>
    intro i σ hi hn hpg hl
    have e : i = n := by omega
    subst e
    refine ⟨σ, ?_, fun _ _ => rfl, hl⟩
    rw [r47_19]
    simp (disch := first | assumption | omega | rfl | exact Nat.le_of_ble_eq_true rfl | decide) only [r47_0, r47_1, r47_2, r47_5, r47_6, r47_7, r47_10, r47_11, r47_12, r47_15, r47_16, r47_17, r47_18, r47_20, r47_21, r47_24, r47_27, r47_28, r47_29, r47_32, r47_33, r47_34, r47_37, r47_38, r47_39, r47_72, r47_73, r47_74, r47_77, r47_78, r47_79, r47_82, r47_85, r47_88, r47_89, r47_90, r47_93, r47_94, r47_95, r47_97, r47_98, r47_101, r47_104, r47_105, r47_106, r47_109, r47_110, r47_111, r47_114, r47_117, r47_120, r47_121, r47_122, r47_125, r47_126, r47_127, r47_130, r47_133, r47_136, r47_139, r47_142, am_gf_1_0, am_gf_1_1, am_pf_3_0, am_pf_32_0, am_pf_33_0, am_pf_3_1, am_pf_32_1, am_pf_33_1, am_pf_3_2, am_pf_32_2, am_pf_33_2, am_pf_3_3, am_pf_32_3, am_pf_33_3, am_ai_2, am_nl_i, am_nl_r, am_nl_n, am_nl_l, Option.bind_some, Option.toList_some, Option.toList_none, List.cons_append, List.nil_append, if_true, if_false, Bool.false_eq_true, Int.reduceEq, Int.reduceAdd, ↓reduceIte, hn, ni_le, Nat.le_refl]
  | succ k ih =>
    intro i σ hi hn hpg hl
    have hc : ¬ n ≤ i := by omega
    -- the step, whatever is put
    have step : ∀ (j : Nat) (x : Int32), upd (σ 3) j x = rdF pg l0 (i + 1) → ∃ σ' : am_St, am_run (d + 2) 47 19 [.ref 1, .ref 3, .int (stF pg (i + 1)), .int (nI (i + 1))] [] (am_up σ 3 j x) τ = some (none, σ', τ) ∧ (∀ c, c ≠ 3 → σ' c = σ c) ∧ σ' 3 = rdF pg l0 n := by
      intro j x hx
      obtain ⟨σ', g1, g2, g3⟩ := ih (i + 1) (am_up σ 3 j x) (by omega) (by rw [am_up_ne (by decide)]; exact hn) (by rw [am_up_ne (by decide)]; exact hpg) (by rw [am_up_eq]; exact hx)
      exact ⟨σ', g1, fun c hc => by rw [g2 c hc, am_up_ne hc], g3⟩
    have hs := rdF_s pg l0 i
    rw [r47_19]
    by_cases h1 : stF pg (i + 1) = 1
    · rw [if_pos h1] at hs
      obtain ⟨σ', g1, g2⟩ := step 0 (ruS (pg i)) (by rw [hl, hs])
      refine ⟨σ', ?_, g2⟩
      rw [← g1, h1]
      have q : (1 : Int32).toInt = 1 := by decide
      simp (disch := first | assumption | omega | rfl | exact Nat.le_of_ble_eq_true rfl | decide) only [r47_0, r47_1, r47_2, r47_5, r47_6, r47_7, r47_10, r47_11, r47_12, r47_15, r47_16, r47_17, r47_18, r47_20, r47_21, r47_24, r47_27, r47_28, r47_29, r47_32, r47_33, r47_34, r47_37, r47_38, r47_39, r47_72, r47_73, r47_74, r47_77, r47_78, r47_79, r47_82, r47_85, r47_88, r47_89, r47_90, r47_93, r47_94, r47_95, r47_97, r47_98, r47_101, r47_104, r47_105, r47_106, r47_109, r47_110, r47_111, r47_114, r47_117, r47_120, r47_121, r47_122, r47_125, r47_126, r47_127, r47_130, r47_133, r47_136, r47_139, r47_142, am_gf_1_0, am_gf_1_1, am_pf_3_0, am_pf_32_0, am_pf_33_0, am_pf_3_1, am_pf_32_1, am_pf_33_1, am_pf_3_2, am_pf_32_2, am_pf_33_2, am_pf_3_3, am_pf_32_3, am_pf_33_3, am_ai_2, am_nl_i, am_nl_r, am_nl_n, am_nl_l, Option.bind_some, Option.toList_some, Option.toList_none, List.cons_append, List.nil_append, if_true, if_false, Bool.false_eq_true, Int.reduceEq, Int.reduceAdd, ↓reduceIte, hn, ni_le, hc, c_next, hpg, (stF_s pg i).symm, h1, am_sw, q, c_ruleOf, nI_1]
    · rw [if_neg h1] at hs
      by_cases h2 : stF pg (i + 1) = 2
      · rw [if_pos h2] at hs
        obtain ⟨σ', g1, g2⟩ := step 1 (pg i - 48) (by rw [hl, hs])
        refine ⟨σ', ?_, g2⟩
        rw [← g1, h2]
        have q : (2 : Int32).toInt = 2 := by decide
        simp (disch := first | assumption | omega | rfl | exact Nat.le_of_ble_eq_true rfl | decide) only [r47_0, r47_1, r47_2, r47_5, r47_6, r47_7, r47_10, r47_11, r47_12, r47_15, r47_16, r47_17, r47_18, r47_20, r47_21, r47_24, r47_27, r47_28, r47_29, r47_32, r47_33, r47_34, r47_37, r47_38, r47_39, r47_72, r47_73, r47_74, r47_77, r47_78, r47_79, r47_82, r47_85, r47_88, r47_89, r47_90, r47_93, r47_94, r47_95, r47_97, r47_98, r47_101, r47_104, r47_105, r47_106, r47_109, r47_110, r47_111, r47_114, r47_117, r47_120, r47_121, r47_122, r47_125, r47_126, r47_127, r47_130, r47_133, r47_136, r47_139, r47_142, am_gf_1_0, am_gf_1_1, am_pf_3_0, am_pf_32_0, am_pf_33_0, am_pf_3_1, am_pf_32_1, am_pf_33_1, am_pf_3_2, am_pf_32_2, am_pf_33_2, am_pf_3_3, am_pf_32_3, am_pf_33_3, am_ai_2, am_nl_i, am_nl_r, am_nl_n, am_nl_l, Option.bind_some, Option.toList_some, Option.toList_none, List.cons_append, List.nil_append, if_true, if_false, Bool.false_eq_true, Int.reduceEq, Int.reduceAdd, ↓reduceIte, hn, ni_le, hc, c_next, hpg, (stF_s pg i).symm, h2, am_sw, q, c_ruleOf, nI_1]
      · rw [if_neg h2] at hs
        by_cases h3 : stF pg (i + 1) = 3
        · rw [if_pos h3] at hs
          obtain ⟨σ', g1, g2⟩ := step 2 (ruS (pg i)) (by rw [hl, hs])
          refine ⟨σ', ?_, g2⟩
          rw [← g1, h3]
          have q : (3 : Int32).toInt = 3 := by decide
          simp (disch := first | assumption | omega | rfl | exact Nat.le_of_ble_eq_true rfl | decide) only [r47_0, r47_1, r47_2, r47_5, r47_6, r47_7, r47_10, r47_11, r47_12, r47_15, r47_16, r47_17, r47_18, r47_20, r47_21, r47_24, r47_27, r47_28, r47_29, r47_32, r47_33, r47_34, r47_37, r47_38, r47_39, r47_72, r47_73, r47_74, r47_77, r47_78, r47_79, r47_82, r47_85, r47_88, r47_89, r47_90, r47_93, r47_94, r47_95, r47_97, r47_98, r47_101, r47_104, r47_105, r47_106, r47_109, r47_110, r47_111, r47_114, r47_117, r47_120, r47_121, r47_122, r47_125, r47_126, r47_127, r47_130, r47_133, r47_136, r47_139, r47_142, am_gf_1_0, am_gf_1_1, am_pf_3_0, am_pf_32_0, am_pf_33_0, am_pf_3_1, am_pf_32_1, am_pf_33_1, am_pf_3_2, am_pf_32_2, am_pf_33_2, am_pf_3_3, am_pf_32_3, am_pf_33_3, am_ai_2, am_nl_i, am_nl_r, am_nl_n, am_nl_l, Option.bind_some, Option.toList_some, Option.toList_none, List.cons_append, List.nil_append, if_true, if_false, Bool.false_eq_true, Int.reduceEq, Int.reduceAdd, ↓reduceIte, hn, ni_le, hc, c_next, hpg, (stF_s pg i).symm, h3, am_sw, q, c_ruleOf, nI_1]
        · rw [if_neg h3] at hs
          by_cases h5 : stF pg (i + 1) = 5
          · rw [if_pos h5] at hs
            obtain ⟨σ', g1, g2⟩ := step 3 (ruS (pg i)) (by rw [hl, hs])
            refine ⟨σ', ?_, g2⟩
            rw [← g1, h5]
            have q : (5 : Int32).toInt = 5 := by decide
            simp (disch := first | assumption | omega | rfl | exact Nat.le_of_ble_eq_true rfl | decide) only [r47_0, r47_1, r47_2, r47_5, r47_6, r47_7, r47_10, r47_11, r47_12, r47_15, r47_16, r47_17, r47_18, r47_20, r47_21, r47_24, r47_27, r47_28, r47_29, r47_32, r47_33, r47_34, r47_37, r47_38, r47_39, r47_72, r47_73, r47_74, r47_77, r47_78, r47_79, r47_82, r47_85, r47_88, r47_89, r47_90, r47_93, r47_94, r47_95, r47_97, r47_98, r47_101, r47_104, r47_105, r47_106, r47_109, r47_110, r47_111, r47_114, r47_117, r47_120, r47_121, r47_122, r47_125, r47_126, r47_127, r47_130, r47_133, r47_136, r47_139, r47_142, am_gf_1_0, am_gf_1_1, am_pf_3_0, am_pf_32_0, am_pf_33_0, am_pf_3_1, am_pf_32_1, am_pf_33_1, am_pf_3_2, am_pf_32_2, am_pf_33_2, am_pf_3_3, am_pf_32_3, am_pf_33_3, am_ai_2, am_nl_i, am_nl_r, am_nl_n, am_nl_l, Option.bind_some, Option.toList_some, Option.toList_none, List.cons_append, List.nil_append, if_true, if_false, Bool.false_eq_true, Int.reduceEq, Int.reduceAdd, ↓reduceIte, hn, ni_le, hc, c_next, hpg, (stF_s pg i).symm, h5, am_sw, q, c_ruleOf, nI_1]
          · rw [if_neg h5] at hs
            obtain ⟨σ', g1, g2, g3⟩ := ih (i + 1) σ (by omega) hn hpg (by rw [hl, hs])
            refine ⟨σ', ?_, g2, g3⟩
            rw [← g1]
            have q1 : ¬ (stF pg (i + 1)).toInt = 1 := lv_neT h1 rfl
            have q2 : ¬ (stF pg (i + 1)).toInt = 2 := lv_neT h2 rfl
            have q3 : ¬ (stF pg (i + 1)).toInt = 3 := lv_neT h3 rfl
            have q5 : ¬ (stF pg (i + 1)).toInt = 5 := lv_neT h5 rfl
            simp (disch := first | assumption | omega | rfl | exact Nat.le_of_ble_eq_true rfl | decide) only [r47_0, r47_1, r47_2, r47_5, r47_6, r47_7, r47_10, r47_11, r47_12, r47_15, r47_16, r47_17, r47_18, r47_20, r47_21, r47_24, r47_27, r47_28, r47_29, r47_32, r47_33, r47_34, r47_37, r47_38, r47_39, r47_72, r47_73, r47_74, r47_77, r47_78, r47_79, r47_82, r47_85, r47_88, r47_89, r47_90, r47_93, r47_94, r47_95, r47_97, r47_98, r47_101, r47_104, r47_105, r47_106, r47_109, r47_110, r47_111, r47_114, r47_117, r47_120, r47_121, r47_122, r47_125, r47_126, r47_127, r47_130, r47_133, r47_136, r47_139, r47_142, am_gf_1_0, am_gf_1_1, am_pf_3_0, am_pf_32_0, am_pf_33_0, am_pf_3_1, am_pf_32_1, am_pf_33_1, am_pf_3_2, am_pf_32_2, am_pf_33_2, am_pf_3_3, am_pf_32_3, am_pf_33_3, am_ai_2, am_nl_i, am_nl_r, am_nl_n, am_nl_l, Option.bind_some, Option.toList_some, Option.toList_none, List.cons_append, List.nil_append, if_true, if_false, Bool.false_eq_true, Int.reduceEq, Int.reduceAdd, ↓reduceIte, hn, ni_le, hc, c_next, hpg, (stF_s pg i).symm, am_sw, q1, q2, q3, q5, nI_1]
            by_cases h4 : (stF pg (i + 1)).toInt = 4
            · rw [if_pos h4]
              simp (disch := first | assumption | omega | rfl | exact Nat.le_of_ble_eq_true rfl | decide) only [r47_0, r47_1, r47_2, r47_5, r47_6, r47_7, r47_10, r47_11, r47_12, r47_15, r47_16, r47_17, r47_18, r47_20, r47_21, r47_24, r47_27, r47_28, r47_29, r47_32, r47_33, r47_34, r47_37, r47_38, r47_39, r47_72, r47_73, r47_74, r47_77, r47_78, r47_79, r47_82, r47_85, r47_88, r47_89, r47_90, r47_93, r47_94, r47_95, r47_97, r47_98, r47_101, r47_104, r47_105, r47_106, r47_109, r47_110, r47_111, r47_114, r47_117, r47_120, r47_121, r47_122, r47_125, r47_126, r47_127, r47_130, r47_133, r47_136, r47_139, r47_142, am_gf_1_0, am_gf_1_1, am_pf_3_0, am_pf_32_0, am_pf_33_0, am_pf_3_1, am_pf_32_1, am_pf_33_1, am_pf_3_2, am_pf_32_2, am_pf_33_2, am_pf_3_3, am_pf_32_3, am_pf_33_3, am_ai_2, am_nl_i, am_nl_r, am_nl_n, am_nl_l, Option.bind_some, Option.toList_some, Option.toList_none, List.cons_append, List.nil_append, if_true, if_false, Bool.false_eq_true, Int.reduceEq, Int.reduceAdd, ↓reduceIte, nI_1]
            · rw [if_neg h4]
              simp (disch := first | assumption | omega | rfl | exact Nat.le_of_ble_eq_true rfl | decide) only [r47_0, r47_1, r47_2, r47_5, r47_6, r47_7, r47_10, r47_11, r47_12, r47_15, r47_16, r47_17, r47_18, r47_20, r47_21, r47_24, r47_27, r47_28, r47_29, r47_32, r47_33, r47_34, r47_37, r47_38, r47_39, r47_72, r47_73, r47_74, r47_77, r47_78, r47_79, r47_82, r47_85, r47_88, r47_89, r47_90, r47_93, r47_94, r47_95, r47_97, r47_98, r47_101, r47_104, r47_105, r47_106, r47_109, r47_110, r47_111, r47_114, r47_117, r47_120, r47_121, r47_122, r47_125, r47_126, r47_127, r47_130, r47_133, r47_136, r47_139, r47_142, am_gf_1_0, am_gf_1_1, am_pf_3_0, am_pf_32_0, am_pf_33_0, am_pf_3_1, am_pf_32_1, am_pf_33_1, am_pf_3_2, am_pf_32_2, am_pf_33_2, am_pf_3_3, am_pf_32_3, am_pf_33_3, am_ai_2, am_nl_i, am_nl_r, am_nl_n, am_nl_l, Option.bind_some, Option.toList_some, Option.toList_none, List.cons_append, List.nil_append, if_true, if_false, Bool.false_eq_true, Int.reduceEq, Int.reduceAdd, ↓reduceIte, nI_1]
theorem c_readInto {d n : Nat} {σ : am_St} {τ : Int64} (hn : σ 1 1 = nI n) (h16 : n ≤ 16) : ∃ σ' : am_St, am_call (d + 2) 47 [.ref 1, .ref 3] σ τ = some (none, σ', τ) ∧ (∀ c, c ≠ 3 → σ' c = σ c) ∧ σ' 3 = rdF (σ 2) (σ 3) n := by
  obtain ⟨σ', g1, g2, g3⟩ := c_readInto_loop (d := d) (τ := τ) (pg := σ 2) (l0 := σ 3) h16 n 0 (am_up (am_up (am_up σ 3 1 0) 3 2 (-1)) 3 3 1) (by omega) (by simp (disch := decide) only [am_up_ne]; exact hn) (by simp (disch := decide) only [am_up_ne]) (by simp only [am_up_eq]; rfl)
  refine ⟨σ', ?_, fun c hc => by rw [g2 c hc, am_up_ne hc, am_up_ne hc, am_up_ne hc], g3⟩
  show am_run (d + 2) 47 0 [.ref 1, .ref 3, .null, .null] [] σ τ = _
  simp (disch := first | assumption | omega | rfl | exact Nat.le_of_ble_eq_true rfl | decide) only [r47_0, r47_1, r47_2, r47_5, r47_6, r47_7, r47_10, r47_11, r47_12, r47_15, r47_16, r47_17, r47_18, r47_20, r47_21, r47_24, r47_27, r47_28, r47_29, r47_32, r47_33, r47_34, r47_37, r47_38, r47_39, r47_72, r47_73, r47_74, r47_77, r47_78, r47_79, r47_82, r47_85, r47_88, r47_89, r47_90, r47_93, r47_94, r47_95, r47_97, r47_98, r47_101, r47_104, r47_105, r47_106, r47_109, r47_110, r47_111, r47_114, r47_117, r47_120, r47_121, r47_122, r47_125, r47_126, r47_127, r47_130, r47_133, r47_136, r47_139, r47_142, am_gf_1_0, am_gf_1_1, am_pf_3_0, am_pf_32_0, am_pf_33_0, am_pf_3_1, am_pf_32_1, am_pf_33_1, am_pf_3_2, am_pf_32_2, am_pf_33_2, am_pf_3_3, am_pf_32_3, am_pf_33_3, am_ai_2, am_nl_i, am_nl_r, am_nl_n, am_nl_l, Option.bind_some, Option.toList_some, Option.toList_none, List.cons_append, List.nil_append, if_true, if_false, Bool.false_eq_true, Int.reduceEq, Int.reduceAdd, ↓reduceIte]
  exact g1
theorem c_padd {d n : Nat} {σ : am_St} {τ : Int64} {x : Int32} (hn : σ 1 1 = nI n) (h16 : n < 16) : am_call d 44 [.ref 1, .int x] σ τ = some (none, am_up (am_up σ 2 n x) 1 1 (nI (n + 1)), τ) := by
  show am_run d 44 0 [.ref 1, .int x] [] σ τ = _
  have hc : ¬ 16 ≤ n := by omega
  simp (disch := first | assumption | omega | rfl | exact Nat.le_of_ble_eq_true rfl | decide) only [r44_0, r44_1, r44_4, r44_6, r44_9, r44_10, r44_13, r44_14, r44_17, r44_18, r44_19, r44_20, r44_20i, r44_21, r44_24, r44_25, r44_26, r44_29, am_gf_1_0, am_gf_1_1, am_pf_1_1, am_ai_2, am_nl_i, am_nl_r, am_nl_n, am_nl_l, Option.bind_some, Option.toList_some, Option.toList_none, List.cons_append, List.nil_append, if_true, if_false, Bool.false_eq_true, Int.reduceEq, Int.reduceAdd, ↓reduceIte, hn, show (16 : Int32) = nI 16 from rfl, ni_le, hc, am_up_ne, nI_1]
