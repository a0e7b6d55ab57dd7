/-! the reference: names -/
theorem m_nameBy {d n i : Nat} {σ : am_St} {τ : Int64} {rule : Int32} {al : Nat → Bool} {f g : Nat → Nat} (h12 : n ≤ 12) (hP : PH n al f g (σ 55) (σ 49)) (hi : i < n) (ha : al i = false) (hr : in03 rule) : am_call d 96 [.ref 42, .int rule, .int (nI i)] σ τ = some (some (.int (rlS (σ 54) al f g rule i)), σ, τ) := by
  show am_run d 96 0 [.ref 42, .int rule, .int (nI i), .null, .null] [] σ τ = _
  obtain ⟨e1, e2, hf, hg⟩ := (hP i hi).2 ha
  have hi12 : i < 12 := by omega
  have hf12 : f i < 12 := by omega
  have hg12 : g i < 12 := by omega
  unfold rlS
  rcases hr with rfl | rfl | rfl | rfl
  · have q1 : (0 : Int32).toInt = 0 := by decide
    simp (disch := first | assumption | omega | rfl | exact Nat.le_of_ble_eq_true rfl | decide) only [r96_0, r96_1, r96_4, r96_5, r96_6, r96_7, r96_8, r96_11, r96_12, r96_13, r96_15, r96_16, r96_44, r96_45, r96_48, r96_49, r96_50, r96_51, r96_52, r96_55, r96_57, r96_58, r96_59, r96_60, r96_63, r96_64, r96_67, r96_69, r96_70, r96_71, r96_74, r96_76, r96_79, r96_80, r96_83, r96_85, r96_86, r96_87, r96_88, r96_89, r96_92, r96_93, r96_96, r96_97, r96_98, r96_99, r96_102, r96_103, r96_106, r96_107, r96_110, r96_111, r96_112, r96_113, am_gf_42_11, am_gf_42_16, am_gf_42_17, am_ai_49, am_ai_54, am_ai_55, am_nl_i, am_nl_r, am_nl_n, am_nl_l, Option.bind_some, Option.toList_some, Option.toList_none, List.cons_append, List.nil_append, if_true, if_false, Bool.false_eq_true, Int.reduceEq, Int.reduceAdd, ↓reduceIte, e1, e2, am_sw, q1, show ¬ (0 : Int32) = 1 by decide, show ¬ (0 : Int32) = 2 by decide, show ¬ (0 : Int32) = 3 by decide]
  · have q1 : (1 : Int32).toInt = 1 := by decide
    simp (disch := first | assumption | omega | rfl | exact Nat.le_of_ble_eq_true rfl | decide) only [r96_0, r96_1, r96_4, r96_5, r96_6, r96_7, r96_8, r96_11, r96_12, r96_13, r96_15, r96_16, r96_44, r96_45, r96_48, r96_49, r96_50, r96_51, r96_52, r96_55, r96_57, r96_58, r96_59, r96_60, r96_63, r96_64, r96_67, r96_69, r96_70, r96_71, r96_74, r96_76, r96_79, r96_80, r96_83, r96_85, r96_86, r96_87, r96_88, r96_89, r96_92, r96_93, r96_96, r96_97, r96_98, r96_99, r96_102, r96_103, r96_106, r96_107, r96_110, r96_111, r96_112, r96_113, am_gf_42_11, am_gf_42_16, am_gf_42_17, am_ai_49, am_ai_54, am_ai_55, am_nl_i, am_nl_r, am_nl_n, am_nl_l, Option.bind_some, Option.toList_some, Option.toList_none, List.cons_append, List.nil_append, if_true, if_false, Bool.false_eq_true, Int.reduceEq, Int.reduceAdd, ↓reduceIte, e1, e2, am_sw, q1]
  · have q1 : (2 : Int32).toInt = 2 := by decide
    have q0 : ¬ (2 : Int32) = 1 := by decide
    unfold omS
    cases hb : al (g i) with
    | true =>
      obtain ⟨-, e3⟩ := (hP (g i) (by omega)).1 hb
      simp (disch := first | assumption | omega | rfl | exact Nat.le_of_ble_eq_true rfl | decide) only [r96_0, r96_1, r96_4, r96_5, r96_6, r96_7, r96_8, r96_11, r96_12, r96_13, r96_15, r96_16, r96_44, r96_45, r96_48, r96_49, r96_50, r96_51, r96_52, r96_55, r96_57, r96_58, r96_59, r96_60, r96_63, r96_64, r96_67, r96_69, r96_70, r96_71, r96_74, r96_76, r96_79, r96_80, r96_83, r96_85, r96_86, r96_87, r96_88, r96_89, r96_92, r96_93, r96_96, r96_97, r96_98, r96_99, r96_102, r96_103, r96_106, r96_107, r96_110, r96_111, r96_112, r96_113, am_gf_42_11, am_gf_42_16, am_gf_42_17, am_ai_49, am_ai_54, am_ai_55, am_nl_i, am_nl_r, am_nl_n, am_nl_l, Option.bind_some, Option.toList_some, Option.toList_none, List.cons_append, List.nil_append, if_true, if_false, Bool.false_eq_true, Int.reduceEq, Int.reduceAdd, ↓reduceIte, e1, e2, am_sw, q1, q0, e3]
    | false =>
      obtain ⟨-, e3, -, hgg⟩ := (hP (g i) (by omega)).2 hb
      have hgg12 : g (g i) < 12 := by omega
      have hne : ¬ nI (g (g i)) = -1 := am_nm1 (by omega)
      simp (disch := first | assumption | omega | rfl | exact Nat.le_of_ble_eq_true rfl | decide) only [r96_0, r96_1, r96_4, r96_5, r96_6, r96_7, r96_8, r96_11, r96_12, r96_13, r96_15, r96_16, r96_44, r96_45, r96_48, r96_49, r96_50, r96_51, r96_52, r96_55, r96_57, r96_58, r96_59, r96_60, r96_63, r96_64, r96_67, r96_69, r96_70, r96_71, r96_74, r96_76, r96_79, r96_80, r96_83, r96_85, r96_86, r96_87, r96_88, r96_89, r96_92, r96_93, r96_96, r96_97, r96_98, r96_99, r96_102, r96_103, r96_106, r96_107, r96_110, r96_111, r96_112, r96_113, am_gf_42_11, am_gf_42_16, am_gf_42_17, am_ai_49, am_ai_54, am_ai_55, am_nl_i, am_nl_r, am_nl_n, am_nl_l, Option.bind_some, Option.toList_some, Option.toList_none, List.cons_append, List.nil_append, if_true, if_false, Bool.false_eq_true, Int.reduceEq, Int.reduceAdd, ↓reduceIte, e1, e2, am_sw, q1, q0, e3, hne]
  · have q1 : (3 : Int32).toInt = 3 := by decide
    have q0 : ¬ (3 : Int32) = 1 := by decide
    have q2 : ¬ (3 : Int32) = 2 := by decide
    unfold omS
    cases hb : al (f i) with
    | true =>
      obtain ⟨-, e3⟩ := (hP (f i) (by omega)).1 hb
      simp (disch := first | assumption | omega | rfl | exact Nat.le_of_ble_eq_true rfl | decide) only [r96_0, r96_1, r96_4, r96_5, r96_6, r96_7, r96_8, r96_11, r96_12, r96_13, r96_15, r96_16, r96_44, r96_45, r96_48, r96_49, r96_50, r96_51, r96_52, r96_55, r96_57, r96_58, r96_59, r96_60, r96_63, r96_64, r96_67, r96_69, r96_70, r96_71, r96_74, r96_76, r96_79, r96_80, r96_83, r96_85, r96_86, r96_87, r96_88, r96_89, r96_92, r96_93, r96_96, r96_97, r96_98, r96_99, r96_102, r96_103, r96_106, r96_107, r96_110, r96_111, r96_112, r96_113, am_gf_42_11, am_gf_42_16, am_gf_42_17, am_ai_49, am_ai_54, am_ai_55, am_nl_i, am_nl_r, am_nl_n, am_nl_l, Option.bind_some, Option.toList_some, Option.toList_none, List.cons_append, List.nil_append, if_true, if_false, Bool.false_eq_true, Int.reduceEq, Int.reduceAdd, ↓reduceIte, e1, e2, am_sw, q1, q0, q2, e3]
    | false =>
      obtain ⟨-, e3, -, hgg⟩ := (hP (f i) (by omega)).2 hb
      have hgg12 : g (f i) < 12 := by omega
      have hne : ¬ nI (g (f i)) = -1 := am_nm1 (by omega)
      simp (disch := first | assumption | omega | rfl | exact Nat.le_of_ble_eq_true rfl | decide) only [r96_0, r96_1, r96_4, r96_5, r96_6, r96_7, r96_8, r96_11, r96_12, r96_13, r96_15, r96_16, r96_44, r96_45, r96_48, r96_49, r96_50, r96_51, r96_52, r96_55, r96_57, r96_58, r96_59, r96_60, r96_63, r96_64, r96_67, r96_69, r96_70, r96_71, r96_74, r96_76, r96_79, r96_80, r96_83, r96_85, r96_86, r96_87, r96_88, r96_89, r96_92, r96_93, r96_96, r96_97, r96_98, r96_99, r96_102, r96_103, r96_106, r96_107, r96_110, r96_111, r96_112, r96_113, am_gf_42_11, am_gf_42_16, am_gf_42_17, am_ai_49, am_ai_54, am_ai_55, am_nl_i, am_nl_r, am_nl_n, am_nl_l, Option.bind_some, Option.toList_some, Option.toList_none, List.cons_append, List.nil_append, if_true, if_false, Bool.false_eq_true, Int.reduceEq, Int.reduceAdd, ↓reduceIte, e1, e2, am_sw, q1, q0, q2, e3, hne]
/-- rows as the class keeps them -/
def RW (n : Nat) (al : Nat → Bool) (f : Nat → Nat) (a b : Nat → Int32) : Prop := ∀ j, j < n → b j = if al j = true then 1 else if a (f j) = a j then b (f j) + 1 else 1
theorem m_rowOf_loop {d n p : Nat} {σ : am_St} {τ : Int64} {x : Int32} {al : Nat → Bool} {f g : Nat → Nat} {b : Nat → Int32} (h12 : n ≤ 12) (hP : PH n al f g (σ 55) (σ 49)) (hp : p ≤ n) (hb : RW p al f (σ 54) b) : ∀ N k, k ≤ N → k < p → ∀ (m v1 : Int32), am_run d 97 10 [.ref 42, .int v1, .int x, .int m, .int (nI k)] [] σ τ = some (some (.int (if σ 54 k = x then m + b k else m)), σ, τ) := by
  intro N
  induction N with
  | zero =>
    intro k hk hkp m v1
    have : k = 0 := by omega
    subst this
    have hne : ¬ nI 0 = -1 := by decide
    have hal : al 0 = true := by
      cases h : al 0 with
      | true => rfl
      | false => have := ((hP 0 (by omega)).2 h).2.2.1; omega
    have e1 := ((hP 0 (by omega)).1 hal).1
    have eb := hb 0 hkp
    rw [if_pos hal] at eb
    rw [r97_10]
    by_cases hx : σ 54 0 = x
    · simp (disch := first | assumption | omega | rfl | exact Nat.le_of_ble_eq_true rfl | decide) only [r97_0, r97_1, r97_2, r97_3, r97_6, r97_7, r97_8, r97_12, r97_13, r97_16, r97_17, r97_20, r97_22, r97_23, r97_24, r97_27, r97_30, r97_31, r97_34, r97_36, r97_37, r97_39, r97_42, r97_43, am_gf_42_16, am_gf_42_17, am_ai_54, am_ai_55, am_nl_i, am_nl_r, am_nl_n, am_nl_l, Option.bind_some, Option.toList_some, Option.toList_none, List.cons_append, List.nil_append, if_true, if_false, Bool.false_eq_true, Int.reduceEq, Int.reduceAdd, ↓reduceIte, hne, hx, e1]
      rw [r97_10, eb]
      simp (disch := first | assumption | omega | rfl | exact Nat.le_of_ble_eq_true rfl | decide) only [r97_0, r97_1, r97_2, r97_3, r97_6, r97_7, r97_8, r97_12, r97_13, r97_16, r97_17, r97_20, r97_22, r97_23, r97_24, r97_27, r97_30, r97_31, r97_34, r97_36, r97_37, r97_39, r97_42, r97_43, am_gf_42_16, am_gf_42_17, am_ai_54, am_ai_55, am_nl_i, am_nl_r, am_nl_n, am_nl_l, Option.bind_some, Option.toList_some, Option.toList_none, List.cons_append, List.nil_append, if_true, if_false, Bool.false_eq_true, Int.reduceEq, Int.reduceAdd, ↓reduceIte]
    · simp (disch := first | assumption | omega | rfl | exact Nat.le_of_ble_eq_true rfl | decide) only [r97_0, r97_1, r97_2, r97_3, r97_6, r97_7, r97_8, r97_12, r97_13, r97_16, r97_17, r97_20, r97_22, r97_23, r97_24, r97_27, r97_30, r97_31, r97_34, r97_36, r97_37, r97_39, r97_42, r97_43, am_gf_42_16, am_gf_42_17, am_ai_54, am_ai_55, am_nl_i, am_nl_r, am_nl_n, am_nl_l, Option.bind_some, Option.toList_some, Option.toList_none, List.cons_append, List.nil_append, if_true, if_false, Bool.false_eq_true, Int.reduceEq, Int.reduceAdd, ↓reduceIte, hne, hx]
  | succ N ih =>
    intro k hk hkp m v1
    have hk12 : k < 12 := by omega
    have hne : ¬ nI k = -1 := am_nm1 (by omega)
    have eb := hb k hkp
    rw [r97_10]
    by_cases hx : σ 54 k = x
    · cases hal : al k with
      | true =>
        rw [if_pos hal] at eb
        have e1 := ((hP k (by omega)).1 hal).1
        simp (disch := first | assumption | omega | rfl | exact Nat.le_of_ble_eq_true rfl | decide) only [r97_0, r97_1, r97_2, r97_3, r97_6, r97_7, r97_8, r97_12, r97_13, r97_16, r97_17, r97_20, r97_22, r97_23, r97_24, r97_27, r97_30, r97_31, r97_34, r97_36, r97_37, r97_39, r97_42, r97_43, am_gf_42_16, am_gf_42_17, am_ai_54, am_ai_55, am_nl_i, am_nl_r, am_nl_n, am_nl_l, Option.bind_some, Option.toList_some, Option.toList_none, List.cons_append, List.nil_append, if_true, if_false, Bool.false_eq_true, Int.reduceEq, Int.reduceAdd, ↓reduceIte, hne, hx, e1]
        rw [r97_10, eb]
        simp (disch := first | assumption | omega | rfl | exact Nat.le_of_ble_eq_true rfl | decide) only [r97_0, r97_1, r97_2, r97_3, r97_6, r97_7, r97_8, r97_12, r97_13, r97_16, r97_17, r97_20, r97_22, r97_23, r97_24, r97_27, r97_30, r97_31, r97_34, r97_36, r97_37, r97_39, r97_42, r97_43, am_gf_42_16, am_gf_42_17, am_ai_54, am_ai_55, am_nl_i, am_nl_r, am_nl_n, am_nl_l, Option.bind_some, Option.toList_some, Option.toList_none, List.cons_append, List.nil_append, if_true, if_false, Bool.false_eq_true, Int.reduceEq, Int.reduceAdd, ↓reduceIte]
      | false =>
        rw [if_neg (by rw [hal]; decide), hx] at eb
        obtain ⟨e1, -, hf, -⟩ := (hP k (by omega)).2 hal
        simp (disch := first | assumption | omega | rfl | exact Nat.le_of_ble_eq_true rfl | decide) only [r97_0, r97_1, r97_2, r97_3, r97_6, r97_7, r97_8, r97_12, r97_13, r97_16, r97_17, r97_20, r97_22, r97_23, r97_24, r97_27, r97_30, r97_31, r97_34, r97_36, r97_37, r97_39, r97_42, r97_43, am_gf_42_16, am_gf_42_17, am_ai_54, am_ai_55, am_nl_i, am_nl_r, am_nl_n, am_nl_l, Option.bind_some, Option.toList_some, Option.toList_none, List.cons_append, List.nil_append, if_true, if_false, Bool.false_eq_true, Int.reduceEq, Int.reduceAdd, ↓reduceIte, hne, hx, e1]
        rw [ih (f k) (by omega) (by omega) (m + 1) v1, eb]
        by_cases hy : σ 54 (f k) = x
        · rw [if_pos hy, if_pos hy, Int32.add_assoc, Int32.add_comm 1]
        · rw [if_neg hy, if_neg hy]
    · simp (disch := first | assumption | omega | rfl | exact Nat.le_of_ble_eq_true rfl | decide) only [r97_0, r97_1, r97_2, r97_3, r97_6, r97_7, r97_8, r97_12, r97_13, r97_16, r97_17, r97_20, r97_22, r97_23, r97_24, r97_27, r97_30, r97_31, r97_34, r97_36, r97_37, r97_39, r97_42, r97_43, am_gf_42_16, am_gf_42_17, am_ai_54, am_ai_55, am_nl_i, am_nl_r, am_nl_n, am_nl_l, Option.bind_some, Option.toList_some, Option.toList_none, List.cons_append, List.nil_append, if_true, if_false, Bool.false_eq_true, Int.reduceEq, Int.reduceAdd, ↓reduceIte, hne, hx]
theorem m_rowOf {d n p : Nat} {σ : am_St} {τ : Int64} {x : Int32} {al : Nat → Bool} {f g : Nat → Nat} {b : Nat → Int32} (h12 : n ≤ 12) (hP : PH n al f g (σ 55) (σ 49)) (hp : p < n) (ha : al p = false) (hb : RW p al f (σ 54) b) : am_call d 97 [.ref 42, .int (nI p), .int x] σ τ = some (some (.int (if σ 54 (f p) = x then b (f p) + 1 else 1)), σ, τ) := by
  show am_run d 97 0 [.ref 42, .int (nI p), .int x, .null, .null] [] σ τ = _
  obtain ⟨e1, -, hf, -⟩ := (hP p hp).2 ha
  have hp12 : p < 12 := by omega
  simp (disch := first | assumption | omega | rfl | exact Nat.le_of_ble_eq_true rfl | decide) only [r97_0, r97_1, r97_2, r97_3, r97_6, r97_7, r97_8, r97_12, r97_13, r97_16, r97_17, r97_20, r97_22, r97_23, r97_24, r97_27, r97_30, r97_31, r97_34, r97_36, r97_37, r97_39, r97_42, r97_43, am_gf_42_16, am_gf_42_17, am_ai_54, am_ai_55, am_nl_i, am_nl_r, am_nl_n, am_nl_l, Option.bind_some, Option.toList_some, Option.toList_none, List.cons_append, List.nil_append, if_true, if_false, Bool.false_eq_true, Int.reduceEq, Int.reduceAdd, ↓reduceIte, e1]
  rw [m_rowOf_loop h12 hP (Nat.le_of_lt hp) hb (f p) (f p) (Nat.le_refl _) hf]
  by_cases hx : σ 54 (f p) = x
  · rw [if_pos hx, if_pos hx, Int32.add_comm]
  · rw [if_neg hx, if_neg hx]
theorem m_free_loop {d n p : Nat} {σ : am_St} {τ : Int64} {al : Nat → Bool} {f g : Nat → Nat} {F0 : Bool} (h12 : n ≤ 12) (hP : PH n al f g (σ 55) (σ 49)) (hp : p < n) (ha : al p = false) : ∀ k j, j + k = p → am_run d 98 98 [.ref 42, .int (nI p), .int (if (F0 && !anyB (fun k => !al k && decide (f k = f p) && decide (σ 54 k = σ 54 (f p))) j) = true then 1 else 0), .int (nI j)] [] σ τ = am_run d 98 154 [.ref 42, .int (nI p), .int (if (F0 && !tkS (σ 54) al f p) = true then 1 else 0), .int (nI p)] [] σ τ := by
  intro k
  obtain ⟨e1, e2, hf, hg⟩ := (hP p hp).2 ha
  induction k with
  | zero =>
    intro j hj
    have e : j = p := by omega
    subst e
    rw [r98_98]
    unfold tkS
    simp (disch := first | assumption | omega | rfl | exact Nat.le_of_ble_eq_true rfl | decide) only [r98_0, r98_1, r98_4, r98_5, r98_6, r98_9, r98_12, r98_13, r98_16, r98_17, r98_18, r98_19, r98_20, r98_23, r98_24, r98_25, r98_28, r98_29, r98_30, r98_33, r98_34, r98_35, r98_36, r98_39, r98_40, r98_41, r98_44, r98_45, r98_46, r98_49, r98_50, r98_51, r98_52, r98_55, r98_56, r98_59, r98_60, r98_61, r98_64, r98_65, r98_66, r98_69, r98_70, r98_71, r98_72, r98_75, r98_78, r98_79, r98_80, r98_81, r98_84, r98_85, r98_86, r98_87, r98_90, r98_91, r98_94, r98_95, r98_96, r98_97, r98_99, r98_100, r98_103, r98_104, r98_107, r98_108, r98_111, r98_112, r98_113, r98_114, r98_117, r98_118, r98_119, r98_122, r98_123, r98_126, r98_127, r98_128, r98_129, r98_132, r98_133, r98_136, r98_137, r98_138, r98_139, r98_142, r98_143, r98_146, r98_147, r98_148, r98_151, r98_155, r98_158, r98_159, r98_162, r98_163, r98_166, r98_167, r98_168, r98_169, r98_172, r98_173, r98_174, r98_177, r98_178, r98_179, r98_180, r98_183, am_gf_42_8, am_gf_42_16, am_gf_42_17, am_gf_42_18, am_gf_42_19, am_ai_46, am_ai_54, am_ai_55, am_ai_56, am_ai_57, am_nl_i, am_nl_r, am_nl_n, am_nl_l, Option.bind_some, Option.toList_some, Option.toList_none, List.cons_append, List.nil_append, if_true, if_false, Bool.false_eq_true, Int.reduceEq, Int.reduceAdd, ↓reduceIte, i_rf]
  | succ k ih =>
    intro j hj
    have hc : ¬ p ≤ j := by omega
    have hj12 : j < 12 := by omega
    have hp12 : p < 12 := by omega
    have hf12 : f p < 12 := by omega
    rw [← ih (j + 1) (by omega), r98_98, anyB_s]
    cases hB : (F0 && !anyB (fun k => !al k && decide (f k = f p) && decide (σ 54 k = σ 54 (f p))) j) with
    | false =>
      have : (F0 && !(anyB (fun k => !al k && decide (f k = f p) && decide (σ 54 k = σ 54 (f p))) j || (!al j && decide (f j = f p) && decide (σ 54 j = σ 54 (f p))))) = false := by
        cases F0 with
        | false => rfl
        | true =>
          simp only [Bool.true_and] at hB ⊢
          rw [Bool.not_or, hB, Bool.false_and]
      rw [this]
      simp (disch := first | assumption | omega | rfl | exact Nat.le_of_ble_eq_true rfl | decide) only [r98_0, r98_1, r98_4, r98_5, r98_6, r98_9, r98_12, r98_13, r98_16, r98_17, r98_18, r98_19, r98_20, r98_23, r98_24, r98_25, r98_28, r98_29, r98_30, r98_33, r98_34, r98_35, r98_36, r98_39, r98_40, r98_41, r98_44, r98_45, r98_46, r98_49, r98_50, r98_51, r98_52, r98_55, r98_56, r98_59, r98_60, r98_61, r98_64, r98_65, r98_66, r98_69, r98_70, r98_71, r98_72, r98_75, r98_78, r98_79, r98_80, r98_81, r98_84, r98_85, r98_86, r98_87, r98_90, r98_91, r98_94, r98_95, r98_96, r98_97, r98_99, r98_100, r98_103, r98_104, r98_107, r98_108, r98_111, r98_112, r98_113, r98_114, r98_117, r98_118, r98_119, r98_122, r98_123, r98_126, r98_127, r98_128, r98_129, r98_132, r98_133, r98_136, r98_137, r98_138, r98_139, r98_142, r98_143, r98_146, r98_147, r98_148, r98_151, r98_155, r98_158, r98_159, r98_162, r98_163, r98_166, r98_167, r98_168, r98_169, r98_172, r98_173, r98_174, r98_177, r98_178, r98_179, r98_180, r98_183, am_gf_42_8, am_gf_42_16, am_gf_42_17, am_gf_42_18, am_gf_42_19, am_ai_46, am_ai_54, am_ai_55, am_ai_56, am_ai_57, am_nl_i, am_nl_r, am_nl_n, am_nl_l, Option.bind_some, Option.toList_some, Option.toList_none, List.cons_append, List.nil_append, if_true, if_false, Bool.false_eq_true, Int.reduceEq, Int.reduceAdd, ↓reduceIte, ni_le, hc, nI_1]
    | true =>
      have e : (F0 && !(anyB (fun k => !al k && decide (f k = f p) && decide (σ 54 k = σ 54 (f p))) j || (!al j && decide (f j = f p) && decide (σ 54 j = σ 54 (f p))))) = !(!al j && decide (f j = f p) && decide (σ 54 j = σ 54 (f p))) := by
        rw [Bool.and_eq_true] at hB
        rw [hB.1, Bool.not_or, hB.2, Bool.true_and, Bool.true_and]
      rw [e]
      cases haj : al j with
      | true =>
        obtain ⟨e3, -⟩ := (hP j (by omega)).1 haj
        have hne : ¬ (-1 : Int32) = nI (f p) := fun q => am_nm1 (by omega) q.symm
        simp (disch := first | assumption | omega | rfl | exact Nat.le_of_ble_eq_true rfl | decide) only [r98_0, r98_1, r98_4, r98_5, r98_6, r98_9, r98_12, r98_13, r98_16, r98_17, r98_18, r98_19, r98_20, r98_23, r98_24, r98_25, r98_28, r98_29, r98_30, r98_33, r98_34, r98_35, r98_36, r98_39, r98_40, r98_41, r98_44, r98_45, r98_46, r98_49, r98_50, r98_51, r98_52, r98_55, r98_56, r98_59, r98_60, r98_61, r98_64, r98_65, r98_66, r98_69, r98_70, r98_71, r98_72, r98_75, r98_78, r98_79, r98_80, r98_81, r98_84, r98_85, r98_86, r98_87, r98_90, r98_91, r98_94, r98_95, r98_96, r98_97, r98_99, r98_100, r98_103, r98_104, r98_107, r98_108, r98_111, r98_112, r98_113, r98_114, r98_117, r98_118, r98_119, r98_122, r98_123, r98_126, r98_127, r98_128, r98_129, r98_132, r98_133, r98_136, r98_137, r98_138, r98_139, r98_142, r98_143, r98_146, r98_147, r98_148, r98_151, r98_155, r98_158, r98_159, r98_162, r98_163, r98_166, r98_167, r98_168, r98_169, r98_172, r98_173, r98_174, r98_177, r98_178, r98_179, r98_180, r98_183, am_gf_42_8, am_gf_42_16, am_gf_42_17, am_gf_42_18, am_gf_42_19, am_ai_46, am_ai_54, am_ai_55, am_ai_56, am_ai_57, am_nl_i, am_nl_r, am_nl_n, am_nl_l, Option.bind_some, Option.toList_some, Option.toList_none, List.cons_append, List.nil_append, if_true, if_false, Bool.false_eq_true, Int.reduceEq, Int.reduceAdd, ↓reduceIte, ni_le, hc, e10, e3, e1, hne, nI_1, Bool.not_true, Bool.false_and, Bool.not_false]
      | false =>
        obtain ⟨e3, -, hfj, -⟩ := (hP j (by omega)).2 haj
        by_cases h3 : f j = f p
        · by_cases h4 : σ 54 j = σ 54 (f p)
          · have h3' : nI (f j) = nI (f p) := by rw [h3]
            simp (disch := first | assumption | omega | rfl | exact Nat.le_of_ble_eq_true rfl | decide) only [r98_0, r98_1, r98_4, r98_5, r98_6, r98_9, r98_12, r98_13, r98_16, r98_17, r98_18, r98_19, r98_20, r98_23, r98_24, r98_25, r98_28, r98_29, r98_30, r98_33, r98_34, r98_35, r98_36, r98_39, r98_40, r98_41, r98_44, r98_45, r98_46, r98_49, r98_50, r98_51, r98_52, r98_55, r98_56, r98_59, r98_60, r98_61, r98_64, r98_65, r98_66, r98_69, r98_70, r98_71, r98_72, r98_75, r98_78, r98_79, r98_80, r98_81, r98_84, r98_85, r98_86, r98_87, r98_90, r98_91, r98_94, r98_95, r98_96, r98_97, r98_99, r98_100, r98_103, r98_104, r98_107, r98_108, r98_111, r98_112, r98_113, r98_114, r98_117, r98_118, r98_119, r98_122, r98_123, r98_126, r98_127, r98_128, r98_129, r98_132, r98_133, r98_136, r98_137, r98_138, r98_139, r98_142, r98_143, r98_146, r98_147, r98_148, r98_151, r98_155, r98_158, r98_159, r98_162, r98_163, r98_166, r98_167, r98_168, r98_169, r98_172, r98_173, r98_174, r98_177, r98_178, r98_179, r98_180, r98_183, am_gf_42_8, am_gf_42_16, am_gf_42_17, am_gf_42_18, am_gf_42_19, am_ai_46, am_ai_54, am_ai_55, am_ai_56, am_ai_57, am_nl_i, am_nl_r, am_nl_n, am_nl_l, Option.bind_some, Option.toList_some, Option.toList_none, List.cons_append, List.nil_append, if_true, if_false, Bool.false_eq_true, Int.reduceEq, Int.reduceAdd, ↓reduceIte, ni_le, hc, e10, e3, e1, h3, h4, nI_1, Bool.not_false, decide_true, Bool.and_self, Bool.not_true]
          · simp (disch := first | assumption | omega | rfl | exact Nat.le_of_ble_eq_true rfl | decide) only [r98_0, r98_1, r98_4, r98_5, r98_6, r98_9, r98_12, r98_13, r98_16, r98_17, r98_18, r98_19, r98_20, r98_23, r98_24, r98_25, r98_28, r98_29, r98_30, r98_33, r98_34, r98_35, r98_36, r98_39, r98_40, r98_41, r98_44, r98_45, r98_46, r98_49, r98_50, r98_51, r98_52, r98_55, r98_56, r98_59, r98_60, r98_61, r98_64, r98_65, r98_66, r98_69, r98_70, r98_71, r98_72, r98_75, r98_78, r98_79, r98_80, r98_81, r98_84, r98_85, r98_86, r98_87, r98_90, r98_91, r98_94, r98_95, r98_96, r98_97, r98_99, r98_100, r98_103, r98_104, r98_107, r98_108, r98_111, r98_112, r98_113, r98_114, r98_117, r98_118, r98_119, r98_122, r98_123, r98_126, r98_127, r98_128, r98_129, r98_132, r98_133, r98_136, r98_137, r98_138, r98_139, r98_142, r98_143, r98_146, r98_147, r98_148, r98_151, r98_155, r98_158, r98_159, r98_162, r98_163, r98_166, r98_167, r98_168, r98_169, r98_172, r98_173, r98_174, r98_177, r98_178, r98_179, r98_180, r98_183, am_gf_42_8, am_gf_42_16, am_gf_42_17, am_gf_42_18, am_gf_42_19, am_ai_46, am_ai_54, am_ai_55, am_ai_56, am_ai_57, am_nl_i, am_nl_r, am_nl_n, am_nl_l, Option.bind_some, Option.toList_some, Option.toList_none, List.cons_append, List.nil_append, if_true, if_false, Bool.false_eq_true, Int.reduceEq, Int.reduceAdd, ↓reduceIte, ni_le, hc, e10, e3, e1, h3, h4, nI_1, Bool.not_false, decide_true, decide_false, Bool.and_self, Bool.and_false, Bool.not_true]
        · have h3' : ¬ nI (f j) = nI (f p) := by rw [ni_eq (by omega) (by omega)]; exact h3
          simp (disch := first | assumption | omega | rfl | exact Nat.le_of_ble_eq_true rfl | decide) only [r98_0, r98_1, r98_4, r98_5, r98_6, r98_9, r98_12, r98_13, r98_16, r98_17, r98_18, r98_19, r98_20, r98_23, r98_24, r98_25, r98_28, r98_29, r98_30, r98_33, r98_34, r98_35, r98_36, r98_39, r98_40, r98_41, r98_44, r98_45, r98_46, r98_49, r98_50, r98_51, r98_52, r98_55, r98_56, r98_59, r98_60, r98_61, r98_64, r98_65, r98_66, r98_69, r98_70, r98_71, r98_72, r98_75, r98_78, r98_79, r98_80, r98_81, r98_84, r98_85, r98_86, r98_87, r98_90, r98_91, r98_94, r98_95, r98_96, r98_97, r98_99, r98_100, r98_103, r98_104, r98_107, r98_108, r98_111, r98_112, r98_113, r98_114, r98_117, r98_118, r98_119, r98_122, r98_123, r98_126, r98_127, r98_128, r98_129, r98_132, r98_133, r98_136, r98_137, r98_138, r98_139, r98_142, r98_143, r98_146, r98_147, r98_148, r98_151, r98_155, r98_158, r98_159, r98_162, r98_163, r98_166, r98_167, r98_168, r98_169, r98_172, r98_173, r98_174, r98_177, r98_178, r98_179, r98_180, r98_183, am_gf_42_8, am_gf_42_16, am_gf_42_17, am_gf_42_18, am_gf_42_19, am_ai_46, am_ai_54, am_ai_55, am_ai_56, am_ai_57, am_nl_i, am_nl_r, am_nl_n, am_nl_l, Option.bind_some, Option.toList_some, Option.toList_none, List.cons_append, List.nil_append, if_true, if_false, Bool.false_eq_true, Int.reduceEq, Int.reduceAdd, ↓reduceIte, ni_le, hc, e10, e3, e1, h3', h3, nI_1, Bool.not_false, decide_false, Bool.and_false, Bool.false_and, Bool.not_true]
def kdK (x : Int32) : Prop := x = 0 ∨ x = 1 ∨ x = 2 ∨ x = 3 ∨ x = 4
theorem alK_iff {kd : Nat → Int32} {i : Nat} : (alK kd i = true) = (kd i = 1 ∨ kd i = 3) := by
  unfold alK
  apply propext
  simp
theorem m_nameOf {d n p : Nat} {σ : am_St} {τ : Int64} {f g : Nat → Nat} {b lw : Nat → Int32} (h12 : n ≤ 12) (hP : PH n (alK (σ 46)) f g (σ 55) (σ 49)) (hp : p < n) (hb : RW p (alK (σ 46)) f (σ 54) b) (hk : kdK (σ 46 p)) (hlw : ∀ j, j < 4 → σ 57 j = lw j) (hl : in03 (lw 0) ∧ in03 (lw 3) ∧ (0 < lw 1 → in03 (lw 2))) : am_call (d + 1) 98 [.ref 42, .int (nI p)] σ τ = some (some (.int (if alK (σ 46) p = true then σ 56 p else npS (σ 54) b (σ 46) (alK (σ 46)) f g lw p)), σ, τ) := by
  show am_run (d + 1) 98 0 [.ref 42, .int (nI p), .null, .null] [] σ τ = _
  have hp12 : p < 12 := by omega
  have l0 := hlw 0 (by decide)
  have l1 := hlw 1 (by decide)
  have l2 := hlw 2 (by decide)
  have l3 := hlw 3 (by decide)
  have i0 : ∀ f, am_ai false 57 0 f = f 0 := fun f => am_ai_of (k := 57) (j := 0) (n := 4) rfl (by decide) (by decide)
  have i1 : ∀ f, am_ai false 57 1 f = f 1 := fun f => am_ai_of (k := 57) (j := 1) (n := 4) rfl (by decide) (by decide)
  have i2 : ∀ f, am_ai false 57 2 f = f 2 := fun f => am_ai_of (k := 57) (j := 2) (n := 4) rfl (by decide) (by decide)
  have i3 : ∀ f, am_ai false 57 3 f = f 3 := fun f => am_ai_of (k := 57) (j := 3) (n := 4) rfl (by decide) (by decide)
  cases ha : alK (σ 46) p with
  | true =>
    have hk1 : σ 46 p = 1 ∨ σ 46 p = 3 := by rw [← alK_iff]; exact ha
    simp (disch := first | assumption | omega | rfl | exact Nat.le_of_ble_eq_true rfl | decide) only [r98_0, r98_1, r98_4, r98_5, r98_6, r98_9, r98_12, r98_13, r98_16, r98_17, r98_18, r98_19, r98_20, r98_23, r98_24, r98_25, r98_28, r98_29, r98_30, r98_33, r98_34, r98_35, r98_36, r98_39, r98_40, r98_41, r98_44, r98_45, r98_46, r98_49, r98_50, r98_51, r98_52, r98_55, r98_56, r98_59, r98_60, r98_61, r98_64, r98_65, r98_66, r98_69, r98_70, r98_71, r98_72, r98_75, r98_78, r98_79, r98_80, r98_81, r98_84, r98_85, r98_86, r98_87, r98_90, r98_91, r98_94, r98_95, r98_96, r98_97, r98_99, r98_100, r98_103, r98_104, r98_107, r98_108, r98_111, r98_112, r98_113, r98_114, r98_117, r98_118, r98_119, r98_122, r98_123, r98_126, r98_127, r98_128, r98_129, r98_132, r98_133, r98_136, r98_137, r98_138, r98_139, r98_142, r98_143, r98_146, r98_147, r98_148, r98_151, r98_154, r98_155, r98_158, r98_159, r98_162, r98_163, r98_166, r98_167, r98_168, r98_169, r98_172, r98_173, r98_174, r98_177, r98_178, r98_179, r98_180, r98_183, am_gf_42_8, am_gf_42_16, am_gf_42_17, am_gf_42_18, am_gf_42_19, am_ai_46, am_ai_54, am_ai_55, am_ai_56, am_ai_57, am_nl_i, am_nl_r, am_nl_n, am_nl_l, Option.bind_some, Option.toList_some, Option.toList_none, List.cons_append, List.nil_append, if_true, if_false, Bool.false_eq_true, Int.reduceEq, Int.reduceAdd, ↓reduceIte, m_isAlone, hk1, e10]
  | false =>
    have hk1 : ¬ (σ 46 p = 1 ∨ σ 46 p = 3) := by rw [← alK_iff, ha]; decide
    obtain ⟨e1, e2, hf, hg⟩ := (hP p hp).2 ha
    have hf12 : f p < 12 := by omega
    rw [if_neg (by decide)]
    unfold npS
    have hbt := m_nameBy (d := d) (τ := τ) h12 hP hp ha hl.2.1
    by_cases h0 : σ 46 p = 0
    · have n2 : ¬ σ 46 p = 2 := by rw [h0]; decide
      have n4 : ¬ σ 46 p = 4 := by rw [h0]; decide
      rw [if_neg (by rintro (q | q); exact n2 q; exact n4 q.1), if_neg n4]
      have hb0 := m_nameBy (d := d) (τ := τ) h12 hP hp ha hl.1
      have hro := m_rowOf (d := d) (τ := τ) (x := rlS (σ 54) (alK (σ 46)) f g (lw 0) p) h12 hP hp ha hb
      generalize (if σ 54 (f p) = rlS (σ 54) (alK (σ 46)) f g (lw 0) p then b (f p) + 1 else 1) = R at hro ⊢
      have hk1' : ¬ ((0 : Int32) = 1 ∨ (0 : Int32) = 3) := by decide
      by_cases h3 : lw 1 ≤ 0
      · have h4 : ¬ 0 < lw 1 := Int32.not_lt.mpr h3
        rw [if_neg (fun q => h4 q.1)]
        simp (disch := first | assumption | omega | rfl | exact Nat.le_of_ble_eq_true rfl | decide) only [r98_0, r98_1, r98_4, r98_5, r98_6, r98_9, r98_12, r98_13, r98_16, r98_17, r98_18, r98_19, r98_20, r98_23, r98_24, r98_25, r98_28, r98_29, r98_30, r98_33, r98_34, r98_35, r98_36, r98_39, r98_40, r98_41, r98_44, r98_45, r98_46, r98_49, r98_50, r98_51, r98_52, r98_55, r98_56, r98_59, r98_60, r98_61, r98_64, r98_65, r98_66, r98_69, r98_70, r98_71, r98_72, r98_75, r98_78, r98_79, r98_80, r98_81, r98_84, r98_85, r98_86, r98_87, r98_90, r98_91, r98_94, r98_95, r98_96, r98_97, r98_99, r98_100, r98_103, r98_104, r98_107, r98_108, r98_111, r98_112, r98_113, r98_114, r98_117, r98_118, r98_119, r98_122, r98_123, r98_126, r98_127, r98_128, r98_129, r98_132, r98_133, r98_136, r98_137, r98_138, r98_139, r98_142, r98_143, r98_146, r98_147, r98_148, r98_151, r98_154, r98_155, r98_158, r98_159, r98_162, r98_163, r98_166, r98_167, r98_168, r98_169, r98_172, r98_173, r98_174, r98_177, r98_178, r98_179, r98_180, r98_183, am_gf_42_8, am_gf_42_16, am_gf_42_17, am_gf_42_18, am_gf_42_19, am_ai_46, am_ai_54, am_ai_55, am_ai_56, am_ai_57, am_nl_i, am_nl_r, am_nl_n, am_nl_l, Option.bind_some, Option.toList_some, Option.toList_none, List.cons_append, List.nil_append, if_true, if_false, Bool.false_eq_true, Int.reduceEq, Int.reduceAdd, ↓reduceIte, m_isAlone, h0, hk1', l0, l1, hb0, h3, i0, i1]
      · have h4 : 0 < lw 1 := Int32.not_le.mp h3
        have hb2 := m_nameBy (d := d) (τ := τ) h12 hP hp ha (hl.2.2 h4)
        by_cases h5 : R < lw 1
        · have h6 : ¬ lw 1 ≤ R := Int32.not_le.mpr h5
          rw [if_neg (fun q => h6 q.2)]
          simp (disch := first | assumption | omega | rfl | exact Nat.le_of_ble_eq_true rfl | decide) only [r98_0, r98_1, r98_4, r98_5, r98_6, r98_9, r98_12, r98_13, r98_16, r98_17, r98_18, r98_19, r98_20, r98_23, r98_24, r98_25, r98_28, r98_29, r98_30, r98_33, r98_34, r98_35, r98_36, r98_39, r98_40, r98_41, r98_44, r98_45, r98_46, r98_49, r98_50, r98_51, r98_52, r98_55, r98_56, r98_59, r98_60, r98_61, r98_64, r98_65, r98_66, r98_69, r98_70, r98_71, r98_72, r98_75, r98_78, r98_79, r98_80, r98_81, r98_84, r98_85, r98_86, r98_87, r98_90, r98_91, r98_94, r98_95, r98_96, r98_97, r98_99, r98_100, r98_103, r98_104, r98_107, r98_108, r98_111, r98_112, r98_113, r98_114, r98_117, r98_118, r98_119, r98_122, r98_123, r98_126, r98_127, r98_128, r98_129, r98_132, r98_133, r98_136, r98_137, r98_138, r98_139, r98_142, r98_143, r98_146, r98_147, r98_148, r98_151, r98_154, r98_155, r98_158, r98_159, r98_162, r98_163, r98_166, r98_167, r98_168, r98_169, r98_172, r98_173, r98_174, r98_177, r98_178, r98_179, r98_180, r98_183, am_gf_42_8, am_gf_42_16, am_gf_42_17, am_gf_42_18, am_gf_42_19, am_ai_46, am_ai_54, am_ai_55, am_ai_56, am_ai_57, am_nl_i, am_nl_r, am_nl_n, am_nl_l, Option.bind_some, Option.toList_some, Option.toList_none, List.cons_append, List.nil_append, if_true, if_false, Bool.false_eq_true, Int.reduceEq, Int.reduceAdd, ↓reduceIte, m_isAlone, h0, hk1', l0, l1, hb0, h3, hro, h5, i0, i1]
        · have h6 : lw 1 ≤ R := Int32.not_lt.mp h5
          rw [if_pos ⟨h4, h6⟩]
          simp (disch := first | assumption | omega | rfl | exact Nat.le_of_ble_eq_true rfl | decide) only [r98_0, r98_1, r98_4, r98_5, r98_6, r98_9, r98_12, r98_13, r98_16, r98_17, r98_18, r98_19, r98_20, r98_23, r98_24, r98_25, r98_28, r98_29, r98_30, r98_33, r98_34, r98_35, r98_36, r98_39, r98_40, r98_41, r98_44, r98_45, r98_46, r98_49, r98_50, r98_51, r98_52, r98_55, r98_56, r98_59, r98_60, r98_61, r98_64, r98_65, r98_66, r98_69, r98_70, r98_71, r98_72, r98_75, r98_78, r98_79, r98_80, r98_81, r98_84, r98_85, r98_86, r98_87, r98_90, r98_91, r98_94, r98_95, r98_96, r98_97, r98_99, r98_100, r98_103, r98_104, r98_107, r98_108, r98_111, r98_112, r98_113, r98_114, r98_117, r98_118, r98_119, r98_122, r98_123, r98_126, r98_127, r98_128, r98_129, r98_132, r98_133, r98_136, r98_137, r98_138, r98_139, r98_142, r98_143, r98_146, r98_147, r98_148, r98_151, r98_154, r98_155, r98_158, r98_159, r98_162, r98_163, r98_166, r98_167, r98_168, r98_169, r98_172, r98_173, r98_174, r98_177, r98_178, r98_179, r98_180, r98_183, am_gf_42_8, am_gf_42_16, am_gf_42_17, am_gf_42_18, am_gf_42_19, am_ai_46, am_ai_54, am_ai_55, am_ai_56, am_ai_57, am_nl_i, am_nl_r, am_nl_n, am_nl_l, Option.bind_some, Option.toList_some, Option.toList_none, List.cons_append, List.nil_append, if_true, if_false, Bool.false_eq_true, Int.reduceEq, Int.reduceAdd, ↓reduceIte, m_isAlone, h0, hk1', l0, l1, l2, hb0, hb2, h3, hro, h5, i0, i1, i2]
    · have h24 : σ 46 p = 2 ∨ σ 46 p = 4 := by
        rcases hk with q | q | q | q | q
        · exact absurd q h0
        · exact absurd (Or.inl q) hk1
        · exact Or.inl q
        · exact absurd (Or.inr q) hk1
        · exact Or.inr q
      rcases h24 with h2 | h4
      · have lp := m_free_loop (d := d + 1) (τ := τ) (F0 := false) h12 hP hp ha p 0 (by omega)
        simp only [Bool.false_and, Bool.false_eq_true, if_false] at lp
        have hk1' : ¬ ((2 : Int32) = 1 ∨ (2 : Int32) = 3) := by decide
        have e20 : ¬ (2 : Int32) = 0 := by decide
        have e24 : ¬ (2 : Int32) = 4 := by decide
        have go : am_run (d + 1) 98 0 [.ref 42, .int (nI p), .null, .null] [] σ τ = am_run (d + 1) 98 98 [.ref 42, .int (nI p), .int 0, .int (nI 0)] [] σ τ := by
          simp (disch := first | assumption | omega | rfl | exact Nat.le_of_ble_eq_true rfl | decide) only [r98_0, r98_1, r98_4, r98_5, r98_6, r98_9, r98_12, r98_13, r98_16, r98_17, r98_18, r98_19, r98_20, r98_23, r98_24, r98_25, r98_28, r98_29, r98_30, r98_33, r98_34, r98_35, r98_36, r98_39, r98_40, r98_41, r98_44, r98_45, r98_46, r98_49, r98_50, r98_51, r98_52, r98_55, r98_56, r98_59, r98_60, r98_61, r98_64, r98_65, r98_66, r98_69, r98_70, r98_71, r98_72, r98_75, r98_78, r98_79, r98_80, r98_81, r98_84, r98_85, r98_86, r98_87, r98_90, r98_91, r98_94, r98_95, r98_96, r98_97, r98_99, r98_100, r98_103, r98_104, r98_107, r98_108, r98_111, r98_112, r98_113, r98_114, r98_117, r98_118, r98_119, r98_122, r98_123, r98_126, r98_127, r98_128, r98_129, r98_132, r98_133, r98_136, r98_137, r98_138, r98_139, r98_142, r98_143, r98_146, r98_147, r98_148, r98_151, r98_154, r98_155, r98_158, r98_159, r98_162, r98_163, r98_166, r98_167, r98_168, r98_169, r98_172, r98_173, r98_174, r98_177, r98_178, r98_179, r98_180, r98_183, am_gf_42_8, am_gf_42_16, am_gf_42_17, am_gf_42_18, am_gf_42_19, am_ai_46, am_ai_54, am_ai_55, am_ai_56, am_ai_57, am_nl_i, am_nl_r, am_nl_n, am_nl_l, Option.bind_some, Option.toList_some, Option.toList_none, List.cons_append, List.nil_append, if_true, if_false, Bool.false_eq_true, Int.reduceEq, Int.reduceAdd, ↓reduceIte, m_isAlone, h2, hk1', e20, e24]
          rfl
        rw [go, lp, r98_154, if_pos (Or.inl h2)]
        simp (disch := first | assumption | omega | rfl | exact Nat.le_of_ble_eq_true rfl | decide) only [r98_0, r98_1, r98_4, r98_5, r98_6, r98_9, r98_12, r98_13, r98_16, r98_17, r98_18, r98_19, r98_20, r98_23, r98_24, r98_25, r98_28, r98_29, r98_30, r98_33, r98_34, r98_35, r98_36, r98_39, r98_40, r98_41, r98_44, r98_45, r98_46, r98_49, r98_50, r98_51, r98_52, r98_55, r98_56, r98_59, r98_60, r98_61, r98_64, r98_65, r98_66, r98_69, r98_70, r98_71, r98_72, r98_75, r98_78, r98_79, r98_80, r98_81, r98_84, r98_85, r98_86, r98_87, r98_90, r98_91, r98_94, r98_95, r98_96, r98_97, r98_98, r98_99, r98_100, r98_103, r98_104, r98_107, r98_108, r98_111, r98_112, r98_113, r98_114, r98_117, r98_118, r98_119, r98_122, r98_123, r98_126, r98_127, r98_128, r98_129, r98_132, r98_133, r98_136, r98_137, r98_138, r98_139, r98_142, r98_143, r98_146, r98_147, r98_148, r98_151, r98_155, r98_158, r98_159, r98_162, r98_163, r98_166, r98_167, r98_168, r98_169, r98_172, r98_173, r98_174, r98_177, r98_178, r98_179, r98_180, r98_183, am_gf_42_8, am_gf_42_16, am_gf_42_17, am_gf_42_18, am_gf_42_19, am_ai_46, am_ai_54, am_ai_55, am_ai_56, am_ai_57, am_nl_i, am_nl_r, am_nl_n, am_nl_l, Option.bind_some, Option.toList_some, Option.toList_none, List.cons_append, List.nil_append, if_true, if_false, Bool.false_eq_true, Int.reduceEq, Int.reduceAdd, ↓reduceIte, l3, hbt, i3]
      · have lp := m_free_loop (d := d + 1) (τ := τ) (F0 := true) h12 hP hp ha p 0 (by omega)
        simp only [Bool.true_and, anyB, Bool.not_false, if_true] at lp
        have hk1' : ¬ ((4 : Int32) = 1 ∨ (4 : Int32) = 3) := by decide
        have e40 : ¬ (4 : Int32) = 0 := by decide
        have go : am_run (d + 1) 98 0 [.ref 42, .int (nI p), .null, .null] [] σ τ = am_run (d + 1) 98 98 [.ref 42, .int (nI p), .int 1, .int (nI 0)] [] σ τ := by
          simp (disch := first | assumption | omega | rfl | exact Nat.le_of_ble_eq_true rfl | decide) only [r98_0, r98_1, r98_4, r98_5, r98_6, r98_9, r98_12, r98_13, r98_16, r98_17, r98_18, r98_19, r98_20, r98_23, r98_24, r98_25, r98_28, r98_29, r98_30, r98_33, r98_34, r98_35, r98_36, r98_39, r98_40, r98_41, r98_44, r98_45, r98_46, r98_49, r98_50, r98_51, r98_52, r98_55, r98_56, r98_59, r98_60, r98_61, r98_64, r98_65, r98_66, r98_69, r98_70, r98_71, r98_72, r98_75, r98_78, r98_79, r98_80, r98_81, r98_84, r98_85, r98_86, r98_87, r98_90, r98_91, r98_94, r98_95, r98_96, r98_97, r98_99, r98_100, r98_103, r98_104, r98_107, r98_108, r98_111, r98_112, r98_113, r98_114, r98_117, r98_118, r98_119, r98_122, r98_123, r98_126, r98_127, r98_128, r98_129, r98_132, r98_133, r98_136, r98_137, r98_138, r98_139, r98_142, r98_143, r98_146, r98_147, r98_148, r98_151, r98_154, r98_155, r98_158, r98_159, r98_162, r98_163, r98_166, r98_167, r98_168, r98_169, r98_172, r98_173, r98_174, r98_177, r98_178, r98_179, r98_180, r98_183, am_gf_42_8, am_gf_42_16, am_gf_42_17, am_gf_42_18, am_gf_42_19, am_ai_46, am_ai_54, am_ai_55, am_ai_56, am_ai_57, am_nl_i, am_nl_r, am_nl_n, am_nl_l, Option.bind_some, Option.toList_some, Option.toList_none, List.cons_append, List.nil_append, if_true, if_false, Bool.false_eq_true, Int.reduceEq, Int.reduceAdd, ↓reduceIte, m_isAlone, h4, hk1', e40]
          rfl
        have n2 : ¬ σ 46 p = 2 := by rw [h4]; decide
        rw [go, lp, r98_154]
        cases ht : tkS (σ 54) (alK (σ 46)) f p with
        | true =>
          rw [if_pos (Or.inr ⟨h4, rfl⟩)]
          simp (disch := first | assumption | omega | rfl | exact Nat.le_of_ble_eq_true rfl | decide) only [r98_0, r98_1, r98_4, r98_5, r98_6, r98_9, r98_12, r98_13, r98_16, r98_17, r98_18, r98_19, r98_20, r98_23, r98_24, r98_25, r98_28, r98_29, r98_30, r98_33, r98_34, r98_35, r98_36, r98_39, r98_40, r98_41, r98_44, r98_45, r98_46, r98_49, r98_50, r98_51, r98_52, r98_55, r98_56, r98_59, r98_60, r98_61, r98_64, r98_65, r98_66, r98_69, r98_70, r98_71, r98_72, r98_75, r98_78, r98_79, r98_80, r98_81, r98_84, r98_85, r98_86, r98_87, r98_90, r98_91, r98_94, r98_95, r98_96, r98_97, r98_98, r98_99, r98_100, r98_103, r98_104, r98_107, r98_108, r98_111, r98_112, r98_113, r98_114, r98_117, r98_118, r98_119, r98_122, r98_123, r98_126, r98_127, r98_128, r98_129, r98_132, r98_133, r98_136, r98_137, r98_138, r98_139, r98_142, r98_143, r98_146, r98_147, r98_148, r98_151, r98_155, r98_158, r98_159, r98_162, r98_163, r98_166, r98_167, r98_168, r98_169, r98_172, r98_173, r98_174, r98_177, r98_178, r98_179, r98_180, r98_183, am_gf_42_8, am_gf_42_16, am_gf_42_17, am_gf_42_18, am_gf_42_19, am_ai_46, am_ai_54, am_ai_55, am_ai_56, am_ai_57, am_nl_i, am_nl_r, am_nl_n, am_nl_l, Option.bind_some, Option.toList_some, Option.toList_none, List.cons_append, List.nil_append, if_true, if_false, Bool.false_eq_true, Int.reduceEq, Int.reduceAdd, ↓reduceIte, l3, hbt, i3, Bool.not_true]
        | false =>
          have hno : ¬ (σ 46 p = 2 ∨ (σ 46 p = 4 ∧ false = true)) := fun q => Or.elim q n2 (fun q => Bool.noConfusion q.2)
          rw [if_neg hno, if_pos h4]
          simp (disch := first | assumption | omega | rfl | exact Nat.le_of_ble_eq_true rfl | decide) only [r98_0, r98_1, r98_4, r98_5, r98_6, r98_9, r98_12, r98_13, r98_16, r98_17, r98_18, r98_19, r98_20, r98_23, r98_24, r98_25, r98_28, r98_29, r98_30, r98_33, r98_34, r98_35, r98_36, r98_39, r98_40, r98_41, r98_44, r98_45, r98_46, r98_49, r98_50, r98_51, r98_52, r98_55, r98_56, r98_59, r98_60, r98_61, r98_64, r98_65, r98_66, r98_69, r98_70, r98_71, r98_72, r98_75, r98_78, r98_79, r98_80, r98_81, r98_84, r98_85, r98_86, r98_87, r98_90, r98_91, r98_94, r98_95, r98_96, r98_97, r98_98, r98_99, r98_100, r98_103, r98_104, r98_107, r98_108, r98_111, r98_112, r98_113, r98_114, r98_117, r98_118, r98_119, r98_122, r98_123, r98_126, r98_127, r98_128, r98_129, r98_132, r98_133, r98_136, r98_137, r98_138, r98_139, r98_142, r98_143, r98_146, r98_147, r98_148, r98_151, r98_155, r98_158, r98_159, r98_162, r98_163, r98_166, r98_167, r98_168, r98_169, r98_172, r98_173, r98_174, r98_177, r98_178, r98_179, r98_180, r98_183, am_gf_42_8, am_gf_42_16, am_gf_42_17, am_gf_42_18, am_gf_42_19, am_ai_46, am_ai_54, am_ai_55, am_ai_56, am_ai_57, am_nl_i, am_nl_r, am_nl_n, am_nl_l, Option.bind_some, Option.toList_some, Option.toList_none, List.cons_append, List.nil_append, if_true, if_false, Bool.false_eq_true, Int.reduceEq, Int.reduceAdd, ↓reduceIte, e10, e1, Bool.not_false]
theorem RW_upd {n m : Nat} {al : Nat → Bool} {f g : Nat → Nat} {a b : Nat → Int32} {x y : Int32} (hS : PS n al f g) (hm : m < n) (hI : RW m al f a b) (hy : y = if al m = true then 1 else if a (f m) = x then b (f m) + 1 else 1) : RW (m + 1) al f (upd a m x) (upd b m y) := by
  intro j hj
  by_cases e : j = m
  · subst e
    cases ha : al j with
    | true =>
      rw [ha] at hy
      rw [pk_us, hy]
      rfl
    | false =>
      have := (hS j (by omega) ha).1
      rw [ha] at hy
      rw [pk_us, pk_us, pk_un (by omega), pk_un (by omega), hy]
  · cases ha : al j with
    | true =>
      have := hI j (by omega)
      rw [ha] at this
      rw [pk_un e, this]
      rfl
    | false =>
      have h1 := (hS j (by omega) ha).1
      have := hI j (by omega)
      rw [ha] at this
      rw [pk_un e, pk_un e, pk_un (by omega), pk_un (by omega), this]
theorem nr_row {n : Nat} {kd tl : Nat → Int32} {al : Nat → Bool} {f g : Nat → Nat} {lw : Nat → Int32} (hS : PS n al f g) : ∀ m, m ≤ n → RW m al f (nrA kd tl al f g lw m).1 (nrA kd tl al f g lw m).2 := by
  intro m
  induction m with
  | zero => intro _ j hj; omega
  | succ m ih =>
    intro hm
    rw [nrA_s]
    split
    · rename_i ha
      exact RW_upd hS (by omega) (ih (by omega)) (by rw [if_pos ha])
    · rename_i ha
      exact RW_upd hS (by omega) (ih (by omega)) (by rw [if_neg ha])
theorem m_layNames_loop {d n : Nat} {τ : Int64} {kd tl : Nat → Int32} {f g : Nat → Nat} {lw : Nat → Int32} (h12 : n ≤ 12) (hk : ∀ j, j < n → kdK (kd j)) (hl : in03 (lw 0) ∧ in03 (lw 3) ∧ (0 < lw 1 → in03 (lw 2))) : ∀ k i (σ : am_St), i + k = n → σ 42 6 = nI n → PH n (alK kd) f g (σ 55) (σ 49) → (∀ j, j < n → σ 46 j = kd j ∧ (alK kd j = true → σ 56 j = tl j)) → (∀ j, j < 4 → σ 57 j = lw j) → (∀ j, j < i → σ 54 j = (nrA kd tl (alK kd) f g lw i).1 j) → ∃ σ' : am_St, am_run (d + 2) 99 2 [.ref 42, .int (nI i)] [] σ τ = some (none, σ', τ) ∧ (∀ c, c ≠ 54 → σ' c = σ c) ∧ ∀ j, j < n → σ' 54 j = nmS kd tl (alK kd) f g lw n j := by
  intro k
  induction k with
  | zero =>
    intro i σ hi hn hP hkt hlw hinv
    have e : i = n := by omega
    subst e
    refine ⟨σ, ?_, fun _ _ => rfl, hinv⟩
    rw [r99_2]
    simp (disch := first | assumption | omega | rfl | exact Nat.le_of_ble_eq_true rfl | decide) only [r99_0, r99_1, r99_3, r99_4, r99_7, r99_10, r99_11, r99_14, r99_15, r99_16, r99_17, r99_20, r99_21, r99_24, r99_27, am_gf_42_6, am_gf_42_16, am_ai_54, am_nl_i, am_nl_r, am_nl_n, am_nl_l, Option.bind_some, Option.toList_some, Option.toList_none, List.cons_append, List.nil_append, if_true, if_false, Bool.false_eq_true, Int.reduceEq, Int.reduceAdd, ↓reduceIte, hn, i_rf]
  | succ k ih =>
    intro i σ hi hn hP hkt hlw hinv
    have hc : ¬ n ≤ i := by omega
    have hi12 : i < 12 := by omega
    have hS : PS n (alK kd) f g := fun j hj ha => by
      obtain ⟨-, -, q1, q2⟩ := (hP j hj).2 ha
      exact ⟨q1, q2⟩
    have eal : ∀ j, j < n → alK (σ 46) j = alK kd j := fun j hj => by unfold alK; rw [(hkt j hj).1]
    have hP2 : PH n (alK (σ 46)) f g (σ 55) (σ 49) := fun j hj => by rw [eal j hj]; exact hP j hj
    have hR0 := nr_row (kd := kd) (tl := tl) (lw := lw) hS i (by omega)
    have hRW : RW i (alK (σ 46)) f (σ 54) (nrA kd tl (alK kd) f g lw i).2 := fun j hj => by
      rw [hR0 j hj, eal j (by omega), hinv j hj]
      cases haj : alK kd j with
      | true => rfl
      | false =>
        have := (hS j (by omega) haj).1
        rw [hinv (f j) (by omega)]
    have hno := m_nameOf (d := d) (τ := τ) (σ := σ) (p := i) (b := (nrA kd tl (alK kd) f g lw i).2) h12 hP2 (by omega) hRW (by rw [(hkt i (by omega)).1]; exact hk i (by omega)) hlw hl
    have ev : (if alK (σ 46) i = true then σ 56 i else npS (σ 54) (nrA kd tl (alK kd) f g lw i).2 (σ 46) (alK (σ 46)) f g lw i) = (nrA kd tl (alK kd) f g lw (i + 1)).1 i := by
      rw [nrA_s, eal i (by omega)]
      cases hai : alK kd i with
      | true =>
        rw [if_pos rfl, if_pos rfl]
        dsimp only
        rw [pk_us]
        exact (hkt i (by omega)).2 hai
      | false =>
        rw [if_neg (by decide), if_neg (by decide)]
        dsimp only
        rw [pk_us]
        have e1 : npS (σ 54) (nrA kd tl (alK kd) f g lw i).2 (σ 46) (alK (σ 46)) f g lw i = npS (nrA kd tl (alK kd) f g lw i).1 (nrA kd tl (alK kd) f g lw i).2 kd (alK (σ 46)) f g lw i := npS_congr (n := n) (fun j hj ha => hS j hj (by rw [← eal j hj]; exact ha)) (by omega) (by rw [eal i (by omega)]; exact hai) hinv (fun _ _ => rfl) (hkt i (by omega)).1 (fun _ _ => rfl)
        rw [e1]
        obtain ⟨q1, q2⟩ := hS i (by omega) hai
        unfold npS tkS rlS omS
        rw [eal _ (show g i < n by omega), eal _ (show f i < n by omega), anyB_congr (P := fun k => !alK (σ 46) k && decide (f k = f i) && decide ((nrA kd tl (alK kd) f g lw i).1 k = (nrA kd tl (alK kd) f g lw i).1 (f i))) (Q := fun k => !alK kd k && decide (f k = f i) && decide ((nrA kd tl (alK kd) f g lw i).1 k = (nrA kd tl (alK kd) f g lw i).1 (f i))) (fun j hj => by rw [eal j (by omega)])]
    rw [ev] at hno
    obtain ⟨σ', g1, g2, g3⟩ := ih (i + 1) (am_up σ 54 i ((nrA kd tl (alK kd) f g lw (i + 1)).1 i)) (by omega) (by rw [am_up_ne (by decide)]; exact hn) (by rw [am_up_ne (by decide), am_up_ne (by decide)]; exact hP) (fun j hj => by rw [am_up_ne (by decide), am_up_ne (by decide)]; exact hkt j hj) (fun j hj => by rw [am_up_ne (by decide)]; exact hlw j hj) (fun j hj => by
      rw [am_up_eq]
      by_cases e : j = i
      · subst e; rw [pk_us]
      · rw [pk_un e, hinv j (by omega), nrA_s]
        split
        · dsimp only; rw [pk_un e]
        · dsimp only; rw [pk_un e])
    refine ⟨σ', ?_, fun c x => by rw [g2 c x, am_up_ne x], g3⟩
    rw [← g1, r99_2]
    simp (disch := first | assumption | omega | rfl | exact Nat.le_of_ble_eq_true rfl | decide) only [r99_0, r99_1, r99_3, r99_4, r99_7, r99_10, r99_11, r99_14, r99_15, r99_16, r99_17, r99_20, r99_21, r99_24, r99_27, am_gf_42_6, am_gf_42_16, am_ai_54, am_nl_i, am_nl_r, am_nl_n, am_nl_l, Option.bind_some, Option.toList_some, Option.toList_none, List.cons_append, List.nil_append, if_true, if_false, Bool.false_eq_true, Int.reduceEq, Int.reduceAdd, ↓reduceIte, hn, ni_le, hc, hno, nI_1]
theorem m_layNames {d n : Nat} {σ : am_St} {τ : Int64} {kd tl : Nat → Int32} {f g : Nat → Nat} {lw : Nat → Int32} (h12 : n ≤ 12) (hk : ∀ j, j < n → kdK (kd j)) (hl : in03 (lw 0) ∧ in03 (lw 3) ∧ (0 < lw 1 → in03 (lw 2))) (hn : σ 42 6 = nI n) (hP : PH n (alK kd) f g (σ 55) (σ 49)) (hkt : ∀ j, j < n → σ 46 j = kd j ∧ (alK kd j = true → σ 56 j = tl j)) (hlw : ∀ j, j < 4 → σ 57 j = lw j) : ∃ σ' : am_St, am_call (d + 2) 99 [.ref 42] σ τ = some (none, σ', τ) ∧ (∀ c, c ≠ 54 → σ' c = σ c) ∧ ∀ j, j < n → σ' 54 j = nmS kd tl (alK kd) f g lw n j := by
  obtain ⟨σ', g1, g2, g3⟩ := m_layNames_loop (d := d) (τ := τ) (tl := tl) (f := f) (g := g) h12 hk hl n 0 σ (by omega) hn hP hkt hlw (fun j hj => absurd hj (Nat.not_lt_zero j))
  refine ⟨σ', ?_, g2, g3⟩
  show am_run (d + 2) 99 0 [.ref 42, .null] [] σ τ = _
  simp (disch := first | assumption | omega | rfl | exact Nat.le_of_ble_eq_true rfl | decide) only [r99_0, r99_1, r99_3, r99_4, r99_7, r99_10, r99_11, r99_14, r99_15, r99_16, r99_17, r99_20, r99_21, r99_24, r99_27, am_gf_42_6, am_gf_42_16, am_ai_54, am_nl_i, am_nl_r, am_nl_n, am_nl_l, Option.bind_some, Option.toList_some, Option.toList_none, List.cons_append, List.nil_append, if_true, if_false, Bool.false_eq_true, Int.reduceEq, Int.reduceAdd, ↓reduceIte]
  exact g1
