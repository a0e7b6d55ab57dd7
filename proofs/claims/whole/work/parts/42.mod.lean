/-! the reference: person -/
theorem m_isP_n {d n : Nat} {σ : am_St} {τ : Int64} {p : Int32} (hn : σ 42 6 = nI n) (h12 : n ≤ 12) (h : idx n p = none) : am_call (d + 1) 91 [.ref 42, .int p] σ τ = some (some (.int 0), σ, τ) := by
  show am_run (d + 1) 91 0 [.ref 42, .int p] [] σ τ = _
  have hin : am_call d 82 [.long p.toInt64, .long 0, .long (nI n - 1).toInt64] σ τ = some (some (.int (inS p 0 (nI n - 1))), σ, τ) := c_inI (lo := 0)
  have hz : inS p 0 (nI n - 1) = 0 := by
    unfold inS
    unfold idx at h
    split at h
    · rename_i h1; rw [if_pos h1]
    · rename_i h1
      split at h
      · rename_i h2
        rw [if_neg h1]
        obtain ⟨j, hj, rfl⟩ := nI_of h1
        rw [ni_le (by omega) (by omega)] at h2
        rw [if_pos]
        cases n with
        | zero => exact Int32.lt_of_lt_of_le (show nI 0 - 1 < 0 by decide) (nI_pos' hj)
        | succ n => rw [nI_pred, ni_lt (by omega) (by omega)]; omega
      · cases h
  simp (disch := first | assumption | omega | rfl | exact Nat.le_of_ble_eq_true rfl | decide) only [r91_0, r91_1, r91_2, r91_3, r91_4, r91_7, r91_8, r91_9, r91_10, r91_13, am_gf_42_6, am_nl_i, am_nl_r, am_nl_n, am_nl_l, Option.bind_some, Option.toList_some, Option.toList_none, List.cons_append, List.nil_append, if_true, if_false, Bool.false_eq_true, Int.reduceEq, Int.reduceAdd, ↓reduceIte, hn, hin, hz]
theorem m_isP_s {d n j : Nat} {σ : am_St} {τ : Int64} {p : Int32} (hn : σ 42 6 = nI n) (h12 : n ≤ 12) (h : idx n p = some j) : am_call (d + 1) 91 [.ref 42, .int p] σ τ = some (some (.int 1), σ, τ) := by
  show am_run (d + 1) 91 0 [.ref 42, .int p] [] σ τ = _
  have hin : am_call d 82 [.long p.toInt64, .long 0, .long (nI n - 1).toInt64] σ τ = some (some (.int (inS p 0 (nI n - 1))), σ, τ) := c_inI (lo := 0)
  obtain ⟨hj, rfl⟩ := idx_some h12 h
  have hz : inS (nI j) 0 (nI n - 1) = 1 := by
    unfold inS
    rw [if_neg (nI_pos (by omega)), if_neg]
    cases n with
    | zero => omega
    | succ n => rw [nI_pred, ni_lt (by omega) (by omega)]; omega
  simp (disch := first | assumption | omega | rfl | exact Nat.le_of_ble_eq_true rfl | decide) only [r91_0, r91_1, r91_2, r91_3, r91_4, r91_7, r91_8, r91_9, r91_10, r91_13, am_gf_42_6, am_nl_i, am_nl_r, am_nl_n, am_nl_l, Option.bind_some, Option.toList_some, Option.toList_none, List.cons_append, List.nil_append, if_true, if_false, Bool.false_eq_true, Int.reduceEq, Int.reduceAdd, ↓reduceIte, hn, hin, hz]
theorem m_isAlone {d : Nat} {σ : am_St} {τ : Int64} {k : Int32} : am_call d 92 [.int k] σ τ = some (some (.int (if k = 1 ∨ k = 3 then 1 else 0)), σ, τ) := by
  show am_run d 92 0 [.int k] [] σ τ = _
  by_cases h1 : k = 1
  · subst h1
    simp (disch := first | assumption | omega | rfl | exact Nat.le_of_ble_eq_true rfl | decide) only [r92_0, r92_1, r92_2, r92_5, r92_6, r92_7, r92_10, r92_11, r92_14, r92_15, am_nl_i, am_nl_r, am_nl_n, am_nl_l, Option.bind_some, Option.toList_some, Option.toList_none, List.cons_append, List.nil_append, if_true, if_false, Bool.false_eq_true, Int.reduceEq, Int.reduceAdd, ↓reduceIte, true_or]
  · by_cases h3 : k = 3
    · subst h3
      simp (disch := first | assumption | omega | rfl | exact Nat.le_of_ble_eq_true rfl | decide) only [r92_0, r92_1, r92_2, r92_5, r92_6, r92_7, r92_10, r92_11, r92_14, r92_15, am_nl_i, am_nl_r, am_nl_n, am_nl_l, Option.bind_some, Option.toList_some, Option.toList_none, List.cons_append, List.nil_append, if_true, if_false, Bool.false_eq_true, Int.reduceEq, Int.reduceAdd, ↓reduceIte, h1, or_true]
    · simp (disch := first | assumption | omega | rfl | exact Nat.le_of_ble_eq_true rfl | decide) only [r92_0, r92_1, r92_2, r92_5, r92_6, r92_7, r92_10, r92_11, r92_14, r92_15, am_nl_i, am_nl_r, am_nl_n, am_nl_l, Option.bind_some, Option.toList_some, Option.toList_none, List.cons_append, List.nil_append, if_true, if_false, Bool.false_eq_true, Int.reduceEq, Int.reduceAdd, ↓reduceIte, h1, h3, or_self]
theorem m_leastMan_loop {d n : Nat} {σ : am_St} {τ : Int64} (hn : σ 42 6 = nI n) (h12 : n ≤ 12) : ∀ k i, i + k = n → am_run d 93 2 [.ref 42, .int (nI i)] [] σ τ = some (some (.int (ff (fun j => decide (σ 47 j = 0)) k i)), σ, τ) := by
  intro k
  induction k with
  | zero =>
    intro i hi
    have e : i = n := by omega
    subst e
    rw [r93_2]
    simp (disch := first | assumption | omega | rfl | exact Nat.le_of_ble_eq_true rfl | decide) only [r93_0, r93_1, r93_3, r93_4, r93_7, r93_10, r93_11, r93_14, r93_15, r93_16, r93_19, r93_20, r93_21, r93_24, r93_27, r93_28, am_gf_42_6, am_gf_42_9, am_ai_47, am_nl_i, am_nl_r, am_nl_n, am_nl_l, Option.bind_some, Option.toList_some, Option.toList_none, List.cons_append, List.nil_append, if_true, if_false, Bool.false_eq_true, Int.reduceEq, Int.reduceAdd, ↓reduceIte, hn, i_rf, ff]
  | succ k ih =>
    intro i hi
    have hc : ¬ n ≤ i := by omega
    rw [r93_2]
    simp (disch := first | assumption | omega | rfl | exact Nat.le_of_ble_eq_true rfl | decide) only [r93_0, r93_1, r93_3, r93_4, r93_7, r93_10, r93_11, r93_14, r93_15, r93_16, r93_19, r93_20, r93_21, r93_24, r93_27, r93_28, am_gf_42_6, am_gf_42_9, am_ai_47, am_nl_i, am_nl_r, am_nl_n, am_nl_l, Option.bind_some, Option.toList_some, Option.toList_none, List.cons_append, List.nil_append, if_true, if_false, Bool.false_eq_true, Int.reduceEq, Int.reduceAdd, ↓reduceIte, hn, ni_le, hc, nI_1, ff]
    rw [ih (i + 1) (by omega)]
    by_cases h : σ 47 i = 0 <;> simp [h]
theorem m_leastMan {d n : Nat} {σ : am_St} {τ : Int64} (hn : σ 42 6 = nI n) (h12 : n ≤ 12) : am_call d 93 [.ref 42] σ τ = some (some (.int (ff (fun j => decide (σ 47 j = 0)) n 0)), σ, τ) := by
  show am_run d 93 0 [.ref 42, .null] [] σ τ = _
  simp (disch := first | assumption | omega | rfl | exact Nat.le_of_ble_eq_true rfl | decide) only [r93_0, r93_1, r93_3, r93_4, r93_7, r93_10, r93_11, r93_14, r93_15, r93_16, r93_19, r93_20, r93_21, r93_24, r93_27, r93_28, am_gf_42_6, am_gf_42_9, am_ai_47, am_nl_i, am_nl_r, am_nl_n, am_nl_l, Option.bind_some, Option.toList_some, Option.toList_none, List.cons_append, List.nil_append, if_true, if_false, Bool.false_eq_true, Int.reduceEq, Int.reduceAdd, ↓reduceIte]
  exact m_leastMan_loop hn h12 n 0 (by omega)
theorem lm_eqM {σ : am_St} {T : tS} (hR : RM σ T) : ff (fun j => decide (σ 47 j = 0)) (s_n T) 0 = lmS T := by
  unfold lmS
  apply ff_congr
  intro j _ hj
  rw [(hR.2.1 j (by omega)).2.1]
  rfl
theorem m_areParents {d : Nat} {σ : am_St} {τ : Int64} {T : tS} {k f m : Int32} (hR : RM σ T) (hW : WF T) : am_call (d + 2) 94 [.ref 42, .int k, .int f, .int m] σ τ = some (some (.int (if pfB T k f m = true then 1 else 0)), σ, τ) := by
  have hn := hR.1
  have h12 := hW.1
  show am_run (d + 2) 94 0 [.ref 42, .int k, .int f, .int m, .null] [] σ τ = _
  unfold pfB
  by_cases hf : k = 1 ∨ k = 3
  · rw [if_pos hf]
    by_cases h1 : f = -1
    · by_cases h2 : m = -1
      · rw [decide_eq_true h1, decide_eq_true h2]
        simp (disch := first | assumption | omega | rfl | exact Nat.le_of_ble_eq_true rfl | decide) only [r94_0, r94_1, r94_4, r94_7, r94_8, r94_9, r94_12, r94_13, r94_14, r94_17, r94_18, r94_21, r94_22, r94_23, r94_24, r94_26, r94_29, r94_30, r94_33, r94_34, r94_37, r94_38, r94_41, r94_42, r94_45, r94_46, r94_47, r94_50, r94_53, r94_54, r94_57, r94_58, r94_59, r94_62, r94_63, r94_66, r94_67, r94_69, r94_71, r94_74, r94_75, r94_76, r94_79, r94_82, r94_83, r94_86, r94_87, r94_88, r94_89, r94_92, r94_93, r94_96, r94_97, am_gf_42_9, am_ai_47, am_nl_i, am_nl_r, am_nl_n, am_nl_l, Option.bind_some, Option.toList_some, Option.toList_none, List.cons_append, List.nil_append, if_true, if_false, Bool.false_eq_true, Int.reduceEq, Int.reduceAdd, ↓reduceIte, m_isAlone, hf, e10, h1, h2, Bool.and_self]
      · rw [decide_eq_false h2, Bool.and_false]
        simp (disch := first | assumption | omega | rfl | exact Nat.le_of_ble_eq_true rfl | decide) only [r94_0, r94_1, r94_4, r94_7, r94_8, r94_9, r94_12, r94_13, r94_14, r94_17, r94_18, r94_21, r94_22, r94_23, r94_24, r94_26, r94_29, r94_30, r94_33, r94_34, r94_37, r94_38, r94_41, r94_42, r94_45, r94_46, r94_47, r94_50, r94_53, r94_54, r94_57, r94_58, r94_59, r94_62, r94_63, r94_66, r94_67, r94_69, r94_71, r94_74, r94_75, r94_76, r94_79, r94_82, r94_83, r94_86, r94_87, r94_88, r94_89, r94_92, r94_93, r94_96, r94_97, am_gf_42_9, am_ai_47, am_nl_i, am_nl_r, am_nl_n, am_nl_l, Option.bind_some, Option.toList_some, Option.toList_none, List.cons_append, List.nil_append, if_true, if_false, Bool.false_eq_true, Int.reduceEq, Int.reduceAdd, ↓reduceIte, m_isAlone, hf, e10, h1, h2]
    · rw [decide_eq_false h1, Bool.false_and]
      simp (disch := first | assumption | omega | rfl | exact Nat.le_of_ble_eq_true rfl | decide) only [r94_0, r94_1, r94_4, r94_7, r94_8, r94_9, r94_12, r94_13, r94_14, r94_17, r94_18, r94_21, r94_22, r94_23, r94_24, r94_26, r94_29, r94_30, r94_33, r94_34, r94_37, r94_38, r94_41, r94_42, r94_45, r94_46, r94_47, r94_50, r94_53, r94_54, r94_57, r94_58, r94_59, r94_62, r94_63, r94_66, r94_67, r94_69, r94_71, r94_74, r94_75, r94_76, r94_79, r94_82, r94_83, r94_86, r94_87, r94_88, r94_89, r94_92, r94_93, r94_96, r94_97, am_gf_42_9, am_ai_47, am_nl_i, am_nl_r, am_nl_n, am_nl_l, Option.bind_some, Option.toList_some, Option.toList_none, List.cons_append, List.nil_append, if_true, if_false, Bool.false_eq_true, Int.reduceEq, Int.reduceAdd, ↓reduceIte, m_isAlone, hf, e10, h1]
  · rw [if_neg hf]
    have one : am_run (d + 2) 94 0 [.ref 42, .int k, .int f, .int m, .null] [] σ τ = am_run (d + 2) 94 69 [.ref 42, .int k, .int f, .int m, .int (if fthB T f = true then 1 else 0)] [] σ τ := by
      unfold fthB
      by_cases hg : f = -2
      · rw [if_pos hg]
        have hl : am_call (d + 1) 93 [.ref 42] σ τ = some (some (.int (lmS T)), σ, τ) := by rw [m_leastMan hn h12, lm_eqM hR]
        by_cases hm : lmS T = -1
        · rw [decide_eq_true hm]
          simp (disch := first | assumption | omega | rfl | exact Nat.le_of_ble_eq_true rfl | decide) only [r94_0, r94_1, r94_4, r94_7, r94_8, r94_9, r94_12, r94_13, r94_14, r94_17, r94_18, r94_21, r94_22, r94_23, r94_24, r94_26, r94_29, r94_30, r94_33, r94_34, r94_37, r94_38, r94_41, r94_42, r94_45, r94_46, r94_47, r94_50, r94_53, r94_54, r94_57, r94_58, r94_59, r94_62, r94_63, r94_66, r94_67, r94_71, r94_74, r94_75, r94_76, r94_79, r94_82, r94_83, r94_86, r94_87, r94_88, r94_89, r94_92, r94_93, r94_96, r94_97, am_gf_42_9, am_ai_47, am_nl_i, am_nl_r, am_nl_n, am_nl_l, Option.bind_some, Option.toList_some, Option.toList_none, List.cons_append, List.nil_append, if_true, if_false, Bool.false_eq_true, Int.reduceEq, Int.reduceAdd, ↓reduceIte, m_isAlone, hf, hg, hl, hm, Bool.not_true]
        · rw [decide_eq_false hm]
          simp (disch := first | assumption | omega | rfl | exact Nat.le_of_ble_eq_true rfl | decide) only [r94_0, r94_1, r94_4, r94_7, r94_8, r94_9, r94_12, r94_13, r94_14, r94_17, r94_18, r94_21, r94_22, r94_23, r94_24, r94_26, r94_29, r94_30, r94_33, r94_34, r94_37, r94_38, r94_41, r94_42, r94_45, r94_46, r94_47, r94_50, r94_53, r94_54, r94_57, r94_58, r94_59, r94_62, r94_63, r94_66, r94_67, r94_71, r94_74, r94_75, r94_76, r94_79, r94_82, r94_83, r94_86, r94_87, r94_88, r94_89, r94_92, r94_93, r94_96, r94_97, am_gf_42_9, am_ai_47, am_nl_i, am_nl_r, am_nl_n, am_nl_l, Option.bind_some, Option.toList_some, Option.toList_none, List.cons_append, List.nil_append, if_true, if_false, Bool.false_eq_true, Int.reduceEq, Int.reduceAdd, ↓reduceIte, m_isAlone, hf, hg, hl, hm, Bool.not_false]
      · rw [if_neg hg]
        unfold sxB
        cases hp : idx (s_n T) f with
        | none => simp (disch := first | assumption | omega | rfl | exact Nat.le_of_ble_eq_true rfl | decide) only [r94_0, r94_1, r94_4, r94_7, r94_8, r94_9, r94_12, r94_13, r94_14, r94_17, r94_18, r94_21, r94_22, r94_23, r94_24, r94_26, r94_29, r94_30, r94_33, r94_34, r94_37, r94_38, r94_41, r94_42, r94_45, r94_46, r94_47, r94_50, r94_53, r94_54, r94_57, r94_58, r94_59, r94_62, r94_63, r94_66, r94_67, r94_71, r94_74, r94_75, r94_76, r94_79, r94_82, r94_83, r94_86, r94_87, r94_88, r94_89, r94_92, r94_93, r94_96, r94_97, am_gf_42_9, am_ai_47, am_nl_i, am_nl_r, am_nl_n, am_nl_l, Option.bind_some, Option.toList_some, Option.toList_none, List.cons_append, List.nil_append, if_true, if_false, Bool.false_eq_true, Int.reduceEq, Int.reduceAdd, ↓reduceIte, m_isAlone, hf, hg, m_isP_n hn h12 hp]
        | some j =>
          obtain ⟨hj, rfl⟩ := idx_some h12 hp
          have hj12 : j < 12 := by omega
          have q := (hR.2.1 j hj).2.1
          by_cases hs : s_sx T j = 0
          · rw [hs] at q
            simp (disch := first | assumption | omega | rfl | exact Nat.le_of_ble_eq_true rfl | decide) only [r94_0, r94_1, r94_4, r94_7, r94_8, r94_9, r94_12, r94_13, r94_14, r94_17, r94_18, r94_21, r94_22, r94_23, r94_24, r94_26, r94_29, r94_30, r94_33, r94_34, r94_37, r94_38, r94_41, r94_42, r94_45, r94_46, r94_47, r94_50, r94_53, r94_54, r94_57, r94_58, r94_59, r94_62, r94_63, r94_66, r94_67, r94_71, r94_74, r94_75, r94_76, r94_79, r94_82, r94_83, r94_86, r94_87, r94_88, r94_89, r94_92, r94_93, r94_96, r94_97, am_gf_42_9, am_ai_47, am_nl_i, am_nl_r, am_nl_n, am_nl_l, Option.bind_some, Option.toList_some, Option.toList_none, List.cons_append, List.nil_append, if_true, if_false, Bool.false_eq_true, Int.reduceEq, Int.reduceAdd, ↓reduceIte, m_isAlone, hf, hg, m_isP_s hn h12 hp, e10, q, hs, decide_true]
          · have q : ¬ σ 47 j = 0 := by rw [q]; exact hs
            simp (disch := first | assumption | omega | rfl | exact Nat.le_of_ble_eq_true rfl | decide) only [r94_0, r94_1, r94_4, r94_7, r94_8, r94_9, r94_12, r94_13, r94_14, r94_17, r94_18, r94_21, r94_22, r94_23, r94_24, r94_26, r94_29, r94_30, r94_33, r94_34, r94_37, r94_38, r94_41, r94_42, r94_45, r94_46, r94_47, r94_50, r94_53, r94_54, r94_57, r94_58, r94_59, r94_62, r94_63, r94_66, r94_67, r94_71, r94_74, r94_75, r94_76, r94_79, r94_82, r94_83, r94_86, r94_87, r94_88, r94_89, r94_92, r94_93, r94_96, r94_97, am_gf_42_9, am_ai_47, am_nl_i, am_nl_r, am_nl_n, am_nl_l, Option.bind_some, Option.toList_some, Option.toList_none, List.cons_append, List.nil_append, if_true, if_false, Bool.false_eq_true, Int.reduceEq, Int.reduceAdd, ↓reduceIte, m_isAlone, hf, hg, m_isP_s hn h12 hp, e10, q, hs, decide_false]
    rw [one, r94_69]
    cases hfb : fthB T f with
    | false => simp (disch := first | assumption | omega | rfl | exact Nat.le_of_ble_eq_true rfl | decide) only [r94_0, r94_1, r94_4, r94_7, r94_8, r94_9, r94_12, r94_13, r94_14, r94_17, r94_18, r94_21, r94_22, r94_23, r94_24, r94_26, r94_29, r94_30, r94_33, r94_34, r94_37, r94_38, r94_41, r94_42, r94_45, r94_46, r94_47, r94_50, r94_53, r94_54, r94_57, r94_58, r94_59, r94_62, r94_63, r94_66, r94_67, r94_71, r94_74, r94_75, r94_76, r94_79, r94_82, r94_83, r94_86, r94_87, r94_88, r94_89, r94_92, r94_93, r94_96, r94_97, am_gf_42_9, am_ai_47, am_nl_i, am_nl_r, am_nl_n, am_nl_l, Option.bind_some, Option.toList_some, Option.toList_none, List.cons_append, List.nil_append, if_true, if_false, Bool.false_eq_true, Int.reduceEq, Int.reduceAdd, ↓reduceIte, Bool.false_and]
    | true =>
      unfold sxB
      cases hp : idx (s_n T) m with
      | none => simp (disch := first | assumption | omega | rfl | exact Nat.le_of_ble_eq_true rfl | decide) only [r94_0, r94_1, r94_4, r94_7, r94_8, r94_9, r94_12, r94_13, r94_14, r94_17, r94_18, r94_21, r94_22, r94_23, r94_24, r94_26, r94_29, r94_30, r94_33, r94_34, r94_37, r94_38, r94_41, r94_42, r94_45, r94_46, r94_47, r94_50, r94_53, r94_54, r94_57, r94_58, r94_59, r94_62, r94_63, r94_66, r94_67, r94_71, r94_74, r94_75, r94_76, r94_79, r94_82, r94_83, r94_86, r94_87, r94_88, r94_89, r94_92, r94_93, r94_96, r94_97, am_gf_42_9, am_ai_47, am_nl_i, am_nl_r, am_nl_n, am_nl_l, Option.bind_some, Option.toList_some, Option.toList_none, List.cons_append, List.nil_append, if_true, if_false, Bool.false_eq_true, Int.reduceEq, Int.reduceAdd, ↓reduceIte, e10, m_isP_n hn h12 hp, Bool.and_false]
      | some j =>
        obtain ⟨hj, rfl⟩ := idx_some h12 hp
        have hj12 : j < 12 := by omega
        have q := (hR.2.1 j hj).2.1
        by_cases hs : s_sx T j = 1
        · rw [hs] at q
          simp (disch := first | assumption | omega | rfl | exact Nat.le_of_ble_eq_true rfl | decide) only [r94_0, r94_1, r94_4, r94_7, r94_8, r94_9, r94_12, r94_13, r94_14, r94_17, r94_18, r94_21, r94_22, r94_23, r94_24, r94_26, r94_29, r94_30, r94_33, r94_34, r94_37, r94_38, r94_41, r94_42, r94_45, r94_46, r94_47, r94_50, r94_53, r94_54, r94_57, r94_58, r94_59, r94_62, r94_63, r94_66, r94_67, r94_71, r94_74, r94_75, r94_76, r94_79, r94_82, r94_83, r94_86, r94_87, r94_88, r94_89, r94_92, r94_93, r94_96, r94_97, am_gf_42_9, am_ai_47, am_nl_i, am_nl_r, am_nl_n, am_nl_l, Option.bind_some, Option.toList_some, Option.toList_none, List.cons_append, List.nil_append, if_true, if_false, Bool.false_eq_true, Int.reduceEq, Int.reduceAdd, ↓reduceIte, e10, m_isP_s hn h12 hp, q, hs, decide_true, Bool.and_self]
        · have q : ¬ σ 47 j = 1 := by rw [q]; exact hs
          simp (disch := first | assumption | omega | rfl | exact Nat.le_of_ble_eq_true rfl | decide) only [r94_0, r94_1, r94_4, r94_7, r94_8, r94_9, r94_12, r94_13, r94_14, r94_17, r94_18, r94_21, r94_22, r94_23, r94_24, r94_26, r94_29, r94_30, r94_33, r94_34, r94_37, r94_38, r94_41, r94_42, r94_45, r94_46, r94_47, r94_50, r94_53, r94_54, r94_57, r94_58, r94_59, r94_62, r94_63, r94_66, r94_67, r94_71, r94_74, r94_75, r94_76, r94_79, r94_82, r94_83, r94_86, r94_87, r94_88, r94_89, r94_92, r94_93, r94_96, r94_97, am_gf_42_9, am_ai_47, am_nl_i, am_nl_r, am_nl_n, am_nl_l, Option.bind_some, Option.toList_some, Option.toList_none, List.cons_append, List.nil_append, if_true, if_false, Bool.false_eq_true, Int.reduceEq, Int.reduceAdd, ↓reduceIte, e10, m_isP_s hn h12 hp, q, hs, decide_false, Bool.and_false]
theorem pn_in {k z : Int32} : pnB k z = decide (inS z 0 (if k = 1 ∨ k = 3 then 5 else 0) = 0) := by
  unfold pnB
  by_cases hf : k = 1 ∨ k = 3
  · rw [if_pos hf, if_pos hf]
    have : nmB z = inS z 0 5 := by
      unfold nmB inS
      by_cases h1 : z < 0
      · rw [if_pos h1, if_pos h1]
      · rw [if_neg h1, if_neg h1]
        obtain ⟨j, hj, rfl⟩ := nI_of h1
        have e1 : (6 ≤ nI j) = (6 ≤ j) := ni_le (a := 6) (by omega) (by omega)
        have e2 : (5 < nI j) = (5 < j) := ni_lt (a := 5) (by omega) (by omega)
        by_cases h : 6 ≤ j
        · rw [if_pos (by rw [e1]; exact h), if_pos (by rw [e2]; omega)]
        · rw [if_neg (by rw [e1]; exact h), if_neg (by rw [e2]; omega)]
    rw [this]
  · rw [if_neg hf, if_neg hf]
    unfold inS
    by_cases h0 : z = 0
    · subst h0; decide
    · by_cases h1 : z < 0
      · simp [h0, h1]
      · have : 0 < z := by
          rcases Int32.lt_or_lt_of_ne h0 with h | h
          · exact absurd h h1
          · exact h
        simp [h0, h1, this]
theorem in_kd (k : Int32) : inS k 0 4 = kdB k := rfl
theorem in_01 {s : Int32} : (inS s 0 1 = 0) = ¬ (s = 0 ∨ s = 1) := by
  apply propext
  unfold inS
  constructor
  · intro h q
    rcases q with rfl | rfl <;> exact absurd h (by decide)
  · intro h
    split
    · rfl
    · rename_i h1
      split
      · rfl
      · rename_i h2
        obtain ⟨j, hj, rfl⟩ := nI_of2 (M := 1) (n := 1) (by decide) h1 (Int32.not_lt.mp h2)
        rcases (show j = 0 ∨ j = 1 by omega) with rfl | rfl
        · exact absurd (Or.inl rfl) h
        · exact absurd (Or.inr rfl) h
theorem m_person {d : Nat} {σ : am_St} {τ : Int64} {T : tS} {k s f m z : Int32} (hR : RM σ T) (hW : WF T) : ∃ σ' : am_St, am_call (d + 3) 95 [.ref 42, .int k, .int s, .int f, .int m, .int z] σ τ = some (some (.int (sp_person T k s f m z).1), σ', τ) ∧ RM σ' (sp_person T k s f m z).2 ∧ ∀ c, c < 42 → σ' c = σ c := by
  have hn := hR.1
  have h12 := hW.1
  have hg3 := hW.2.2.1
  have h7 := hR.2.2.2.2.2.2.1
  have hap := m_areParents (d := d) (τ := τ) (k := k) (f := f) (m := m) hR hW
  show ∃ σ' : am_St, am_run (d + 3) 95 0 [.ref 42, .int k, .int s, .int f, .int m, .int z] [] σ τ = _ ∧ _
  unfold sp_person
  by_cases hk : kdB k = 0
  · rw [if_pos (Or.inl hk)]
    refine ⟨σ, ?_, hR, fun _ _ => rfl⟩
    simp (disch := first | assumption | omega | rfl | exact Nat.le_of_ble_eq_true rfl | decide) only [r95_0, r95_1, r95_2, r95_3, r95_6, r95_9, r95_12, r95_13, r95_14, r95_15, r95_16, r95_19, r95_22, r95_24, r95_25, r95_26, r95_27, r95_28, r95_30, r95_33, r95_36, r95_38, r95_39, r95_41, r95_42, r95_43, r95_44, r95_47, r95_50, r95_53, r95_56, r95_57, r95_60, r95_63, r95_65, r95_66, r95_67, r95_70, r95_72, r95_75, r95_76, r95_78, r95_81, r95_82, r95_85, r95_86, r95_89, r95_91, r95_92, r95_93, r95_96, r95_97, r95_100, r95_101, r95_102, r95_103, r95_106, r95_107, r95_110, r95_111, r95_112, r95_113, r95_116, r95_117, r95_120, r95_121, r95_122, r95_123, r95_126, r95_127, r95_130, r95_132, r95_133, r95_134, r95_137, r95_138, r95_141, r95_143, r95_144, r95_145, r95_148, r95_149, r95_152, r95_153, r95_154, r95_155, r95_158, r95_159, r95_162, r95_163, r95_164, r95_165, r95_168, r95_169, r95_172, r95_173, r95_175, r95_178, r95_179, r95_182, r95_185, r95_186, r95_187, r95_188, r95_188i, r95_189, r95_192, r95_193, r95_195, r95_198, r95_199, r95_202, r95_203, r95_204, r95_207, r95_208, r95_208i, r95_209, r95_212, r95_213, r95_214, r95_217, r95_218, r95_221, r95_222, r95_223, am_gf_42_6, am_gf_42_7, am_gf_42_8, am_gf_42_9, am_gf_42_10, am_gf_42_11, am_gf_42_12, am_gf_42_13, am_gf_42_14, am_gf_42_15, am_pf_42_6, am_pf_42_7, am_ai_46, am_ai_47, am_ai_48, am_ai_49, am_ai_50, am_ai_51, am_ai_52, am_ai_53, am_nl_i, am_nl_r, am_nl_n, am_nl_l, Option.bind_some, Option.toList_some, Option.toList_none, List.cons_append, List.nil_append, if_true, if_false, Bool.false_eq_true, Int.reduceEq, Int.reduceAdd, ↓reduceIte, c_in04, in_kd, hk]
  · by_cases hs : s = 0 ∨ s = 1
    · rw [if_neg (fun q => q.elim hk (fun q => q hs))]
      have hs1 : ¬ inS s 0 1 = 0 := by rw [in_01]; exact fun q => q hs
      have go : am_run (d + 3) 95 0 [.ref 42, .int k, .int s, .int f, .int m, .int z] [] σ τ = am_run (d + 3) 95 25 [.ref 42, .int k, .int s, .int f, .int m, .int z] [] σ τ := by
        simp (disch := first | assumption | omega | rfl | exact Nat.le_of_ble_eq_true rfl | decide) only [r95_0, r95_1, r95_2, r95_3, r95_6, r95_9, r95_12, r95_13, r95_14, r95_15, r95_16, r95_19, r95_22, r95_24, r95_26, r95_27, r95_28, r95_30, r95_33, r95_36, r95_38, r95_39, r95_41, r95_42, r95_43, r95_44, r95_47, r95_50, r95_53, r95_56, r95_57, r95_60, r95_63, r95_65, r95_66, r95_67, r95_70, r95_72, r95_75, r95_76, r95_78, r95_81, r95_82, r95_85, r95_86, r95_89, r95_91, r95_92, r95_93, r95_96, r95_97, r95_100, r95_101, r95_102, r95_103, r95_106, r95_107, r95_110, r95_111, r95_112, r95_113, r95_116, r95_117, r95_120, r95_121, r95_122, r95_123, r95_126, r95_127, r95_130, r95_132, r95_133, r95_134, r95_137, r95_138, r95_141, r95_143, r95_144, r95_145, r95_148, r95_149, r95_152, r95_153, r95_154, r95_155, r95_158, r95_159, r95_162, r95_163, r95_164, r95_165, r95_168, r95_169, r95_172, r95_173, r95_175, r95_178, r95_179, r95_182, r95_185, r95_186, r95_187, r95_188, r95_188i, r95_189, r95_192, r95_193, r95_195, r95_198, r95_199, r95_202, r95_203, r95_204, r95_207, r95_208, r95_208i, r95_209, r95_212, r95_213, r95_214, r95_217, r95_218, r95_221, r95_222, r95_223, am_gf_42_6, am_gf_42_7, am_gf_42_8, am_gf_42_9, am_gf_42_10, am_gf_42_11, am_gf_42_12, am_gf_42_13, am_gf_42_14, am_gf_42_15, am_pf_42_6, am_pf_42_7, am_ai_46, am_ai_47, am_ai_48, am_ai_49, am_ai_50, am_ai_51, am_ai_52, am_ai_53, am_nl_i, am_nl_r, am_nl_n, am_nl_l, Option.bind_some, Option.toList_some, Option.toList_none, List.cons_append, List.nil_append, if_true, if_false, Bool.false_eq_true, Int.reduceEq, Int.reduceAdd, ↓reduceIte, c_in04, in_kd, hk, c_in01, hs1]
      rw [go]
      cases hpf : pfB T k f m with
      | false =>
        rw [if_pos (show false = false from rfl)]
        rw [hpf] at hap
        refine ⟨σ, ?_, hR, fun _ _ => rfl⟩
        simp (disch := first | assumption | omega | rfl | exact Nat.le_of_ble_eq_true rfl | decide) only [r95_0, r95_1, r95_2, r95_3, r95_6, r95_9, r95_12, r95_13, r95_14, r95_15, r95_16, r95_19, r95_22, r95_24, r95_25, r95_26, r95_27, r95_28, r95_30, r95_33, r95_36, r95_38, r95_39, r95_41, r95_42, r95_43, r95_44, r95_47, r95_50, r95_53, r95_56, r95_57, r95_60, r95_63, r95_65, r95_66, r95_67, r95_70, r95_72, r95_75, r95_76, r95_78, r95_81, r95_82, r95_85, r95_86, r95_89, r95_91, r95_92, r95_93, r95_96, r95_97, r95_100, r95_101, r95_102, r95_103, r95_106, r95_107, r95_110, r95_111, r95_112, r95_113, r95_116, r95_117, r95_120, r95_121, r95_122, r95_123, r95_126, r95_127, r95_130, r95_132, r95_133, r95_134, r95_137, r95_138, r95_141, r95_143, r95_144, r95_145, r95_148, r95_149, r95_152, r95_153, r95_154, r95_155, r95_158, r95_159, r95_162, r95_163, r95_164, r95_165, r95_168, r95_169, r95_172, r95_173, r95_175, r95_178, r95_179, r95_182, r95_185, r95_186, r95_187, r95_188, r95_188i, r95_189, r95_192, r95_193, r95_195, r95_198, r95_199, r95_202, r95_203, r95_204, r95_207, r95_208, r95_208i, r95_209, r95_212, r95_213, r95_214, r95_217, r95_218, r95_221, r95_222, r95_223, am_gf_42_6, am_gf_42_7, am_gf_42_8, am_gf_42_9, am_gf_42_10, am_gf_42_11, am_gf_42_12, am_gf_42_13, am_gf_42_14, am_gf_42_15, am_pf_42_6, am_pf_42_7, am_ai_46, am_ai_47, am_ai_48, am_ai_49, am_ai_50, am_ai_51, am_ai_52, am_ai_53, am_nl_i, am_nl_r, am_nl_n, am_nl_l, Option.bind_some, Option.toList_some, Option.toList_none, List.cons_append, List.nil_append, if_true, if_false, Bool.false_eq_true, Int.reduceEq, Int.reduceAdd, ↓reduceIte, hap]
      | true =>
        rw [if_neg (show ¬ true = false by decide)]
        rw [hpf] at hap
        have go2 : am_run (d + 3) 95 25 [.ref 42, .int k, .int s, .int f, .int m, .int z] [] σ τ = if pnB k z = true then some (some (.int (-102)), σ, τ) else am_run (d + 3) 95 66 [.ref 42, .int k, .int s, .int f, .int m, .int z] [] σ τ := by
          rw [pn_in]
          by_cases hf : k = 1 ∨ k = 3
          · by_cases hz : inS z 0 5 = 0
            · simp (disch := first | assumption | omega | rfl | exact Nat.le_of_ble_eq_true rfl | decide) only [r95_0, r95_1, r95_2, r95_3, r95_6, r95_9, r95_12, r95_13, r95_14, r95_15, r95_16, r95_19, r95_22, r95_24, r95_25, r95_26, r95_27, r95_28, r95_30, r95_33, r95_36, r95_38, r95_39, r95_41, r95_42, r95_43, r95_44, r95_47, r95_50, r95_53, r95_56, r95_57, r95_60, r95_63, r95_65, r95_67, r95_70, r95_72, r95_75, r95_76, r95_78, r95_81, r95_82, r95_85, r95_86, r95_89, r95_91, r95_92, r95_93, r95_96, r95_97, r95_100, r95_101, r95_102, r95_103, r95_106, r95_107, r95_110, r95_111, r95_112, r95_113, r95_116, r95_117, r95_120, r95_121, r95_122, r95_123, r95_126, r95_127, r95_130, r95_132, r95_133, r95_134, r95_137, r95_138, r95_141, r95_143, r95_144, r95_145, r95_148, r95_149, r95_152, r95_153, r95_154, r95_155, r95_158, r95_159, r95_162, r95_163, r95_164, r95_165, r95_168, r95_169, r95_172, r95_173, r95_175, r95_178, r95_179, r95_182, r95_185, r95_186, r95_187, r95_188, r95_188i, r95_189, r95_192, r95_193, r95_195, r95_198, r95_199, r95_202, r95_203, r95_204, r95_207, r95_208, r95_208i, r95_209, r95_212, r95_213, r95_214, r95_217, r95_218, r95_221, r95_222, r95_223, am_gf_42_6, am_gf_42_7, am_gf_42_8, am_gf_42_9, am_gf_42_10, am_gf_42_11, am_gf_42_12, am_gf_42_13, am_gf_42_14, am_gf_42_15, am_pf_42_6, am_pf_42_7, am_ai_46, am_ai_47, am_ai_48, am_ai_49, am_ai_50, am_ai_51, am_ai_52, am_ai_53, am_nl_i, am_nl_r, am_nl_n, am_nl_l, Option.bind_some, Option.toList_some, Option.toList_none, List.cons_append, List.nil_append, if_true, if_false, Bool.false_eq_true, Int.reduceEq, Int.reduceAdd, ↓reduceIte, hap, e10, m_isAlone, hf, c_in05, hz, decide_true]
            · simp (disch := first | assumption | omega | rfl | exact Nat.le_of_ble_eq_true rfl | decide) only [r95_0, r95_1, r95_2, r95_3, r95_6, r95_9, r95_12, r95_13, r95_14, r95_15, r95_16, r95_19, r95_22, r95_24, r95_25, r95_26, r95_27, r95_28, r95_30, r95_33, r95_36, r95_38, r95_39, r95_41, r95_42, r95_43, r95_44, r95_47, r95_50, r95_53, r95_56, r95_57, r95_60, r95_63, r95_65, r95_67, r95_70, r95_72, r95_75, r95_76, r95_78, r95_81, r95_82, r95_85, r95_86, r95_89, r95_91, r95_92, r95_93, r95_96, r95_97, r95_100, r95_101, r95_102, r95_103, r95_106, r95_107, r95_110, r95_111, r95_112, r95_113, r95_116, r95_117, r95_120, r95_121, r95_122, r95_123, r95_126, r95_127, r95_130, r95_132, r95_133, r95_134, r95_137, r95_138, r95_141, r95_143, r95_144, r95_145, r95_148, r95_149, r95_152, r95_153, r95_154, r95_155, r95_158, r95_159, r95_162, r95_163, r95_164, r95_165, r95_168, r95_169, r95_172, r95_173, r95_175, r95_178, r95_179, r95_182, r95_185, r95_186, r95_187, r95_188, r95_188i, r95_189, r95_192, r95_193, r95_195, r95_198, r95_199, r95_202, r95_203, r95_204, r95_207, r95_208, r95_208i, r95_209, r95_212, r95_213, r95_214, r95_217, r95_218, r95_221, r95_222, r95_223, am_gf_42_6, am_gf_42_7, am_gf_42_8, am_gf_42_9, am_gf_42_10, am_gf_42_11, am_gf_42_12, am_gf_42_13, am_gf_42_14, am_gf_42_15, am_pf_42_6, am_pf_42_7, am_ai_46, am_ai_47, am_ai_48, am_ai_49, am_ai_50, am_ai_51, am_ai_52, am_ai_53, am_nl_i, am_nl_r, am_nl_n, am_nl_l, Option.bind_some, Option.toList_some, Option.toList_none, List.cons_append, List.nil_append, if_true, if_false, Bool.false_eq_true, Int.reduceEq, Int.reduceAdd, ↓reduceIte, hap, e10, m_isAlone, hf, c_in05, hz, decide_false]
          · by_cases hz : inS z 0 0 = 0
            · simp (disch := first | assumption | omega | rfl | exact Nat.le_of_ble_eq_true rfl | decide) only [r95_0, r95_1, r95_2, r95_3, r95_6, r95_9, r95_12, r95_13, r95_14, r95_15, r95_16, r95_19, r95_22, r95_24, r95_25, r95_26, r95_27, r95_28, r95_30, r95_33, r95_36, r95_38, r95_39, r95_41, r95_42, r95_43, r95_44, r95_47, r95_50, r95_53, r95_56, r95_57, r95_60, r95_63, r95_65, r95_67, r95_70, r95_72, r95_75, r95_76, r95_78, r95_81, r95_82, r95_85, r95_86, r95_89, r95_91, r95_92, r95_93, r95_96, r95_97, r95_100, r95_101, r95_102, r95_103, r95_106, r95_107, r95_110, r95_111, r95_112, r95_113, r95_116, r95_117, r95_120, r95_121, r95_122, r95_123, r95_126, r95_127, r95_130, r95_132, r95_133, r95_134, r95_137, r95_138, r95_141, r95_143, r95_144, r95_145, r95_148, r95_149, r95_152, r95_153, r95_154, r95_155, r95_158, r95_159, r95_162, r95_163, r95_164, r95_165, r95_168, r95_169, r95_172, r95_173, r95_175, r95_178, r95_179, r95_182, r95_185, r95_186, r95_187, r95_188, r95_188i, r95_189, r95_192, r95_193, r95_195, r95_198, r95_199, r95_202, r95_203, r95_204, r95_207, r95_208, r95_208i, r95_209, r95_212, r95_213, r95_214, r95_217, r95_218, r95_221, r95_222, r95_223, am_gf_42_6, am_gf_42_7, am_gf_42_8, am_gf_42_9, am_gf_42_10, am_gf_42_11, am_gf_42_12, am_gf_42_13, am_gf_42_14, am_gf_42_15, am_pf_42_6, am_pf_42_7, am_ai_46, am_ai_47, am_ai_48, am_ai_49, am_ai_50, am_ai_51, am_ai_52, am_ai_53, am_nl_i, am_nl_r, am_nl_n, am_nl_l, Option.bind_some, Option.toList_some, Option.toList_none, List.cons_append, List.nil_append, if_true, if_false, Bool.false_eq_true, Int.reduceEq, Int.reduceAdd, ↓reduceIte, hap, e10, m_isAlone, hf, c_in00, hz, decide_true]
            · simp (disch := first | assumption | omega | rfl | exact Nat.le_of_ble_eq_true rfl | decide) only [r95_0, r95_1, r95_2, r95_3, r95_6, r95_9, r95_12, r95_13, r95_14, r95_15, r95_16, r95_19, r95_22, r95_24, r95_25, r95_26, r95_27, r95_28, r95_30, r95_33, r95_36, r95_38, r95_39, r95_41, r95_42, r95_43, r95_44, r95_47, r95_50, r95_53, r95_56, r95_57, r95_60, r95_63, r95_65, r95_67, r95_70, r95_72, r95_75, r95_76, r95_78, r95_81, r95_82, r95_85, r95_86, r95_89, r95_91, r95_92, r95_93, r95_96, r95_97, r95_100, r95_101, r95_102, r95_103, r95_106, r95_107, r95_110, r95_111, r95_112, r95_113, r95_116, r95_117, r95_120, r95_121, r95_122, r95_123, r95_126, r95_127, r95_130, r95_132, r95_133, r95_134, r95_137, r95_138, r95_141, r95_143, r95_144, r95_145, r95_148, r95_149, r95_152, r95_153, r95_154, r95_155, r95_158, r95_159, r95_162, r95_163, r95_164, r95_165, r95_168, r95_169, r95_172, r95_173, r95_175, r95_178, r95_179, r95_182, r95_185, r95_186, r95_187, r95_188, r95_188i, r95_189, r95_192, r95_193, r95_195, r95_198, r95_199, r95_202, r95_203, r95_204, r95_207, r95_208, r95_208i, r95_209, r95_212, r95_213, r95_214, r95_217, r95_218, r95_221, r95_222, r95_223, am_gf_42_6, am_gf_42_7, am_gf_42_8, am_gf_42_9, am_gf_42_10, am_gf_42_11, am_gf_42_12, am_gf_42_13, am_gf_42_14, am_gf_42_15, am_pf_42_6, am_pf_42_7, am_ai_46, am_ai_47, am_ai_48, am_ai_49, am_ai_50, am_ai_51, am_ai_52, am_ai_53, am_nl_i, am_nl_r, am_nl_n, am_nl_l, Option.bind_some, Option.toList_some, Option.toList_none, List.cons_append, List.nil_append, if_true, if_false, Bool.false_eq_true, Int.reduceEq, Int.reduceAdd, ↓reduceIte, hap, e10, m_isAlone, hf, c_in00, hz, decide_false]
        rw [go2]
        cases hz : pnB k z with
        | true =>
          rw [if_pos (show true = true from rfl), if_pos (show true = true from rfl)]
          exact ⟨σ, rfl, hR, fun _ _ => rfl⟩
        | false =>
          rw [if_neg (show ¬ false = true by decide), if_neg (show ¬ false = true by decide), r95_66]
          by_cases hfu : s_n T = 12 ∨ (f = -2 ∧ 3 ≤ cnt (s_gp T) (s_n T))
          · rw [if_pos hfu]
            refine ⟨σ, ?_, hR, fun _ _ => rfl⟩
            by_cases hq : s_n T = 12
            · simp (disch := first | assumption | omega | rfl | exact Nat.le_of_ble_eq_true rfl | decide) only [r95_0, r95_1, r95_2, r95_3, r95_6, r95_9, r95_12, r95_13, r95_14, r95_15, r95_16, r95_19, r95_22, r95_24, r95_25, r95_26, r95_27, r95_28, r95_30, r95_33, r95_36, r95_38, r95_39, r95_41, r95_42, r95_43, r95_44, r95_47, r95_50, r95_53, r95_56, r95_57, r95_60, r95_63, r95_65, r95_67, r95_70, r95_72, r95_75, r95_76, r95_78, r95_81, r95_82, r95_85, r95_86, r95_89, r95_91, r95_92, r95_93, r95_96, r95_97, r95_100, r95_101, r95_102, r95_103, r95_106, r95_107, r95_110, r95_111, r95_112, r95_113, r95_116, r95_117, r95_120, r95_121, r95_122, r95_123, r95_126, r95_127, r95_130, r95_132, r95_133, r95_134, r95_137, r95_138, r95_141, r95_143, r95_144, r95_145, r95_148, r95_149, r95_152, r95_153, r95_154, r95_155, r95_158, r95_159, r95_162, r95_163, r95_164, r95_165, r95_168, r95_169, r95_172, r95_173, r95_175, r95_178, r95_179, r95_182, r95_185, r95_186, r95_187, r95_188, r95_188i, r95_189, r95_192, r95_193, r95_195, r95_198, r95_199, r95_202, r95_203, r95_204, r95_207, r95_208, r95_208i, r95_209, r95_212, r95_213, r95_214, r95_217, r95_218, r95_221, r95_222, r95_223, am_gf_42_6, am_gf_42_7, am_gf_42_8, am_gf_42_9, am_gf_42_10, am_gf_42_11, am_gf_42_12, am_gf_42_13, am_gf_42_14, am_gf_42_15, am_pf_42_6, am_pf_42_7, am_ai_46, am_ai_47, am_ai_48, am_ai_49, am_ai_50, am_ai_51, am_ai_52, am_ai_53, am_nl_i, am_nl_r, am_nl_n, am_nl_l, Option.bind_some, Option.toList_some, Option.toList_none, List.cons_append, List.nil_append, if_true, if_false, Bool.false_eq_true, Int.reduceEq, Int.reduceAdd, ↓reduceIte, hn, show (12 : Int32) = nI 12 from rfl, ni_eq, hq]
            · obtain ⟨h3, h4⟩ := hfu.resolve_left hq
              have h5 : cnt (s_gp T) (s_n T) = 3 := by omega
              have h5 : nI (cnt (s_gp T) (s_n T)) = 3 := by rw [h5]; rfl
              simp (disch := first | assumption | omega | rfl | exact Nat.le_of_ble_eq_true rfl | decide) only [r95_0, r95_1, r95_2, r95_3, r95_6, r95_9, r95_12, r95_13, r95_14, r95_15, r95_16, r95_19, r95_22, r95_24, r95_25, r95_26, r95_27, r95_28, r95_30, r95_33, r95_36, r95_38, r95_39, r95_41, r95_42, r95_43, r95_44, r95_47, r95_50, r95_53, r95_56, r95_57, r95_60, r95_63, r95_65, r95_67, r95_70, r95_72, r95_75, r95_76, r95_78, r95_81, r95_82, r95_85, r95_86, r95_89, r95_91, r95_92, r95_93, r95_96, r95_97, r95_100, r95_101, r95_102, r95_103, r95_106, r95_107, r95_110, r95_111, r95_112, r95_113, r95_116, r95_117, r95_120, r95_121, r95_122, r95_123, r95_126, r95_127, r95_130, r95_132, r95_133, r95_134, r95_137, r95_138, r95_141, r95_143, r95_144, r95_145, r95_148, r95_149, r95_152, r95_153, r95_154, r95_155, r95_158, r95_159, r95_162, r95_163, r95_164, r95_165, r95_168, r95_169, r95_172, r95_173, r95_175, r95_178, r95_179, r95_182, r95_185, r95_186, r95_187, r95_188, r95_188i, r95_189, r95_192, r95_193, r95_195, r95_198, r95_199, r95_202, r95_203, r95_204, r95_207, r95_208, r95_208i, r95_209, r95_212, r95_213, r95_214, r95_217, r95_218, r95_221, r95_222, r95_223, am_gf_42_6, am_gf_42_7, am_gf_42_8, am_gf_42_9, am_gf_42_10, am_gf_42_11, am_gf_42_12, am_gf_42_13, am_gf_42_14, am_gf_42_15, am_pf_42_6, am_pf_42_7, am_ai_46, am_ai_47, am_ai_48, am_ai_49, am_ai_50, am_ai_51, am_ai_52, am_ai_53, am_nl_i, am_nl_r, am_nl_n, am_nl_l, Option.bind_some, Option.toList_some, Option.toList_none, List.cons_append, List.nil_append, if_true, if_false, Bool.false_eq_true, Int.reduceEq, Int.reduceAdd, ↓reduceIte, hn, show (12 : Int32) = nI 12 from rfl, ni_eq, hq, h3, h7, h5]
          · rw [if_neg hfu]
            have hq : ¬ s_n T = 12 := fun q => hfu (Or.inl q)
            have hn12 : s_n T < 12 := by omega
            have hq2 : ¬ nI (s_n T) = 12 := by
              show ¬ nI (s_n T) = nI 12
              rw [ni_eq (by omega) (by omega)]; exact hq
            have cf : Int32 := if f = -2 then lmS T else f
            refine ⟨am_up (am_up (am_up (am_up (am_up (am_up (am_up (am_up (am_up (am_up σ 46 (s_n T) k) 47 (s_n T) s) 48 (s_n T) f) 49 (s_n T) m) 50 (s_n T) z) 51 (s_n T) (-1)) 52 (s_n T) 1) 53 (s_n T) (if f = -2 then lmS T else f)) 42 7 (nI (cnt (s_gp T) (s_n T) + if f = -2 then 1 else 0))) 42 6 (nI (s_n T + 1)), ?_, ?_, fun c hc => by
              rw [am_up_ne (by omega), am_up_ne (by omega), am_up_ne (by omega), am_up_ne (by omega), am_up_ne (by omega), am_up_ne (by omega), am_up_ne (by omega), am_up_ne (by omega), am_up_ne (by omega), am_up_ne (by omega)]⟩
            · by_cases h3 : f = -2
              · subst h3
                have h5 : ¬ nI (cnt (s_gp T) (s_n T)) = 3 := by
                  show ¬ nI (cnt (s_gp T) (s_n T)) = nI 3
                  rw [ni_eq (by omega) (by omega)]
                  intro e
                  exact hfu (Or.inr ⟨rfl, by omega⟩)
                have hl : am_call (d + 2) 93 [.ref 42] (am_up (am_up (am_up (am_up (am_up (am_up (am_up σ 46 (s_n T) k) 47 (s_n T) s) 48 (s_n T) (-2)) 49 (s_n T) m) 50 (s_n T) z) 51 (s_n T) (-1)) 52 (s_n T) 1) τ = some (some (.int (lmS T)), am_up (am_up (am_up (am_up (am_up (am_up (am_up σ 46 (s_n T) k) 47 (s_n T) s) 48 (s_n T) (-2)) 49 (s_n T) m) 50 (s_n T) z) 51 (s_n T) (-1)) 52 (s_n T) 1, τ) := by
                  rw [m_leastMan (n := s_n T) (by simp (disch := decide) only [am_up_ne]; exact hn) h12]
                  rw [← lm_eqM hR]
                  congr 4
                  apply ff_congr
                  intro j _ hj
                  simp (disch := decide) only [am_up_ne, am_up_eq]
                  rw [pk_un (by omega)]
                simp (disch := first | assumption | omega | rfl | exact Nat.le_of_ble_eq_true rfl | decide) only [r95_0, r95_1, r95_2, r95_3, r95_6, r95_9, r95_12, r95_13, r95_14, r95_15, r95_16, r95_19, r95_22, r95_24, r95_25, r95_26, r95_27, r95_28, r95_30, r95_33, r95_36, r95_38, r95_39, r95_41, r95_42, r95_43, r95_44, r95_47, r95_50, r95_53, r95_56, r95_57, r95_60, r95_63, r95_65, r95_67, r95_70, r95_72, r95_75, r95_76, r95_78, r95_81, r95_82, r95_85, r95_86, r95_89, r95_91, r95_92, r95_93, r95_96, r95_97, r95_100, r95_101, r95_102, r95_103, r95_106, r95_107, r95_110, r95_111, r95_112, r95_113, r95_116, r95_117, r95_120, r95_121, r95_122, r95_123, r95_126, r95_127, r95_130, r95_132, r95_133, r95_134, r95_137, r95_138, r95_141, r95_143, r95_144, r95_145, r95_148, r95_149, r95_152, r95_153, r95_154, r95_155, r95_158, r95_159, r95_162, r95_163, r95_164, r95_165, r95_168, r95_169, r95_172, r95_173, r95_175, r95_178, r95_179, r95_182, r95_185, r95_186, r95_187, r95_188, r95_188i, r95_189, r95_192, r95_193, r95_195, r95_198, r95_199, r95_202, r95_203, r95_204, r95_207, r95_208, r95_208i, r95_209, r95_212, r95_213, r95_214, r95_217, r95_218, r95_221, r95_222, r95_223, am_gf_42_6, am_gf_42_7, am_gf_42_8, am_gf_42_9, am_gf_42_10, am_gf_42_11, am_gf_42_12, am_gf_42_13, am_gf_42_14, am_gf_42_15, am_pf_42_6, am_pf_42_7, am_ai_46, am_ai_47, am_ai_48, am_ai_49, am_ai_50, am_ai_51, am_ai_52, am_ai_53, am_nl_i, am_nl_r, am_nl_n, am_nl_l, Option.bind_some, Option.toList_some, Option.toList_none, List.cons_append, List.nil_append, if_true, if_false, Bool.false_eq_true, Int.reduceEq, Int.reduceAdd, ↓reduceIte, hn, hq2, h7, h5, am_up_ne, am_up_eq, pk_un, pk_us, hl, nI_1, nI_pred]
              · simp (disch := first | assumption | omega | rfl | exact Nat.le_of_ble_eq_true rfl | decide) only [r95_0, r95_1, r95_2, r95_3, r95_6, r95_9, r95_12, r95_13, r95_14, r95_15, r95_16, r95_19, r95_22, r95_24, r95_25, r95_26, r95_27, r95_28, r95_30, r95_33, r95_36, r95_38, r95_39, r95_41, r95_42, r95_43, r95_44, r95_47, r95_50, r95_53, r95_56, r95_57, r95_60, r95_63, r95_65, r95_67, r95_70, r95_72, r95_75, r95_76, r95_78, r95_81, r95_82, r95_85, r95_86, r95_89, r95_91, r95_92, r95_93, r95_96, r95_97, r95_100, r95_101, r95_102, r95_103, r95_106, r95_107, r95_110, r95_111, r95_112, r95_113, r95_116, r95_117, r95_120, r95_121, r95_122, r95_123, r95_126, r95_127, r95_130, r95_132, r95_133, r95_134, r95_137, r95_138, r95_141, r95_143, r95_144, r95_145, r95_148, r95_149, r95_152, r95_153, r95_154, r95_155, r95_158, r95_159, r95_162, r95_163, r95_164, r95_165, r95_168, r95_169, r95_172, r95_173, r95_175, r95_178, r95_179, r95_182, r95_185, r95_186, r95_187, r95_188, r95_188i, r95_189, r95_192, r95_193, r95_195, r95_198, r95_199, r95_202, r95_203, r95_204, r95_207, r95_208, r95_208i, r95_209, r95_212, r95_213, r95_214, r95_217, r95_218, r95_221, r95_222, r95_223, am_gf_42_6, am_gf_42_7, am_gf_42_8, am_gf_42_9, am_gf_42_10, am_gf_42_11, am_gf_42_12, am_gf_42_13, am_gf_42_14, am_gf_42_15, am_pf_42_6, am_pf_42_7, am_ai_46, am_ai_47, am_ai_48, am_ai_49, am_ai_50, am_ai_51, am_ai_52, am_ai_53, am_nl_i, am_nl_r, am_nl_n, am_nl_l, Option.bind_some, Option.toList_some, Option.toList_none, List.cons_append, List.nil_append, if_true, if_false, Bool.false_eq_true, Int.reduceEq, Int.reduceAdd, ↓reduceIte, hn, hq2, h3, h7, am_up_ne, am_up_eq, pk_un, pk_us, nI_1, nI_pred, Nat.add_zero, show ∀ x : Int32, x + 0 = x from fun x => by simp]
            · obtain ⟨r1, r2, r3, r4, r5, r6, r7, r8⟩ := hR
              refine ⟨by rw [am_up_eq, pk_us]; rfl, fun i hi => ?_, fun i hi => by simp (disch := decide) only [am_up_ne]; exact r3 i hi, ⟨?_, fun i hi => by simp (disch := decide) only [am_up_ne]; exact r4.2 i hi⟩, ?_, ?_, ?_, ?_⟩
              · have hi : i < s_n T + 1 := hi
                simp (disch := decide) only [am_up_ne, am_up_eq]
                show upd (σ 46) (s_n T) k i = upd (s_kd T) (s_n T) k i ∧ upd (σ 47) (s_n T) s i = upd (s_sx T) (s_n T) s i ∧ upd (σ 48) (s_n T) f i = (if uq (s_gp T) (s_n T) (decide (f = -2)) i = true then -2 else encS (s_al (x_add T k s f m z)) (uq (s_f T) (s_n T) (faS T f)) i) ∧ upd (σ 49) (s_n T) m i = encS (s_al (x_add T k s f m z)) (uq (s_g T) (s_n T) m.toNatClampNeg) i ∧ upd (σ 50) (s_n T) z i = upd (s_tl T) (s_n T) z i ∧ upd (σ 51) (s_n T) (-1) i = upd (s_wr T) (s_n T) (-1) i ∧ upd (σ 52) (s_n T) 1 i = upd (s_lv T) (s_n T) 1 i ∧ upd (σ 53) (s_n T) (if f = -2 then lmS T else f) i = encS (s_al (x_add T k s f m z)) (uq (s_f T) (s_n T) (faS T f)) i
                unfold encS
                rw [al_add]
                by_cases h : i = s_n T
                · subst h
                  simp only [pk_us, uq_s, if_true, alK_k, decide_eq_true_eq]
                  by_cases hf : k = 1 ∨ k = 3
                  · unfold pfB at hpf
                    rw [if_pos hf, Bool.and_eq_true] at hpf
                    have e1 := of_decide_eq_true hpf.1
                    have e2 := of_decide_eq_true hpf.2
                    subst e1
                    subst e2
                    simp [hf]
                  · obtain ⟨a, b, ha, hb, hsa, hsb, rfl, efa, hfx⟩ := pf_parents h12 hf hpf
                    rw [efa, nI_clamp (by omega), if_neg hf]
                    rcases hfx with ⟨e1, e2⟩ | ⟨e1, e2⟩
                    · rw [if_neg e2, if_neg e2, e1]
                      simp [hf]
                    · rw [if_pos e1, if_pos e1, e1, e2]
                      simp [hf]
                · obtain ⟨b1, b2, b3, b4, b5, b6, b7, b8⟩ := r2 i (by omega)
                  simp only [pk_un h, uq_n h, if_neg h]
                  exact ⟨b1, b2, b3, b4, b5, b6, b7, b8⟩
              · rw [am_up_eq, pk_un (by decide), am_up_eq, pk_un (by decide)]
                simp (disch := decide) only [am_up_ne]
                exact r4.1
              · rw [am_up_eq, pk_un (by decide), am_up_eq, pk_un (by decide)]
                simp (disch := decide) only [am_up_ne]
                exact r5
              · rw [am_up_eq, pk_un (by decide), am_up_eq, pk_un (by decide)]
                simp (disch := decide) only [am_up_ne]
                exact r6
              · rw [am_up_eq, pk_un (by decide), am_up_eq, pk_us]
                show _ = nI (cnt (uq (s_gp T) (s_n T) (decide (f = -2))) (s_n T + 1))
                rw [cnt_s, uq_s, cnt_congr (P := uq (s_gp T) (s_n T) (decide (f = -2))) (Q := s_gp T) (fun j hj => uq_n (by omega))]
                by_cases h : f = -2 <;> simp [h]
              · have him := hW.2.2.2.2.2.2
                show (match s_im T with
                  | none => _
                  | some im => _)
                cases hi : s_im T with
                | none =>
                  rw [hi] at r8
                  dsimp only at r8 ⊢
                  rw [am_up_eq, pk_un (by decide), am_up_eq, pk_un (by decide)]
                  simp (disch := decide) only [am_up_ne]
                  exact r8
                | some im =>
                  rw [hi] at r8
                  dsimp only at r8 ⊢
                  have hle := (him im hi).1
                  rw [am_up_eq, pk_un (by decide), pk_un (by decide), am_up_eq, pk_un (by decide), pk_un (by decide)]
                  simp (disch := decide) only [am_up_ne]
                  refine ⟨r8.1, ?_, r8.2.2⟩
                  rw [r8.2.1]
                  show nI (cnt (s_gp T) im.1) = nI (cnt (uq (s_gp T) (s_n T) (decide (f = -2))) im.1)
                  rw [cnt_congr (P := uq (s_gp T) (s_n T) (decide (f = -2))) (Q := s_gp T) (fun j hj => uq_n (by omega))]
    · rw [if_pos (Or.inr hs)]
      have hs1 : inS s 0 1 = 0 := by rw [in_01]; exact hs
      refine ⟨σ, ?_, hR, fun _ _ => rfl⟩
      simp (disch := first | assumption | omega | rfl | exact Nat.le_of_ble_eq_true rfl | decide) only [r95_0, r95_1, r95_2, r95_3, r95_6, r95_9, r95_12, r95_13, r95_14, r95_15, r95_16, r95_19, r95_22, r95_24, r95_25, r95_26, r95_27, r95_28, r95_30, r95_33, r95_36, r95_38, r95_39, r95_41, r95_42, r95_43, r95_44, r95_47, r95_50, r95_53, r95_56, r95_57, r95_60, r95_63, r95_65, r95_66, r95_67, r95_70, r95_72, r95_75, r95_76, r95_78, r95_81, r95_82, r95_85, r95_86, r95_89, r95_91, r95_92, r95_93, r95_96, r95_97, r95_100, r95_101, r95_102, r95_103, r95_106, r95_107, r95_110, r95_111, r95_112, r95_113, r95_116, r95_117, r95_120, r95_121, r95_122, r95_123, r95_126, r95_127, r95_130, r95_132, r95_133, r95_134, r95_137, r95_138, r95_141, r95_143, r95_144, r95_145, r95_148, r95_149, r95_152, r95_153, r95_154, r95_155, r95_158, r95_159, r95_162, r95_163, r95_164, r95_165, r95_168, r95_169, r95_172, r95_173, r95_175, r95_178, r95_179, r95_182, r95_185, r95_186, r95_187, r95_188, r95_188i, r95_189, r95_192, r95_193, r95_195, r95_198, r95_199, r95_202, r95_203, r95_204, r95_207, r95_208, r95_208i, r95_209, r95_212, r95_213, r95_214, r95_217, r95_218, r95_221, r95_222, r95_223, am_gf_42_6, am_gf_42_7, am_gf_42_8, am_gf_42_9, am_gf_42_10, am_gf_42_11, am_gf_42_12, am_gf_42_13, am_gf_42_14, am_gf_42_15, am_pf_42_6, am_pf_42_7, am_ai_46, am_ai_47, am_ai_48, am_ai_49, am_ai_50, am_ai_51, am_ai_52, am_ai_53, am_nl_i, am_nl_r, am_nl_n, am_nl_l, Option.bind_some, Option.toList_some, Option.toList_none, List.cons_append, List.nil_append, if_true, if_false, Bool.false_eq_true, Int.reduceEq, Int.reduceAdd, ↓reduceIte, c_in04, in_kd, hk, c_in01, hs1]
