/-! the reference: what its cells hold; in, letters, blank, the law -/
def RM (σ : am_St) (T : tS) : Prop := σ 42 6 = nI (s_n T) ∧ (∀ i, i < s_n T → σ 46 i = s_kd T i ∧ σ 47 i = s_sx T i ∧ σ 48 i = (if s_gp T i = true then -2 else encS (s_al T) (s_f T) i) ∧ σ 49 i = encS (s_al T) (s_g T) i ∧ σ 50 i = s_tl T i ∧ σ 51 i = s_wr T i ∧ σ 52 i = s_lv T i ∧ σ 53 i = encS (s_al T) (s_f T) i) ∧ (∀ j, j < 4 → σ 44 j = s_lw T j) ∧ (σ 42 1 = nI (s_pl T) ∧ ∀ j, j < s_pl T → σ 43 j = s_pg T j) ∧ σ 42 4 = s_lr T ∧ σ 42 21 = nI (s_md T) ∧ σ 42 7 = nI (cnt (s_gp T) (s_n T)) ∧ (match s_im T with
  | none => σ 42 32 = -1
  | some im => σ 42 32 = nI im.1 ∧ σ 42 33 = nI (cnt (s_gp T) im.1) ∧ ∀ j, j < im.1 → σ 69 (3 * j) = im.2.1 j ∧ σ 69 (3 * j + 1) = im.2.2.1 j ∧ σ 69 (3 * j + 2) = im.2.2.2 j)
/-- what no search of the reference changes -/
def KM (σ σ' : am_St) : Prop := (∀ c, (c < 42 ∨ c = 43 ∨ c = 44 ∨ (46 ≤ c ∧ c ≤ 53) ∨ c = 69) → σ' c = σ c) ∧ ∀ j, j ≠ 5 → σ' 42 j = σ 42 j
theorem KM.rf {σ : am_St} : KM σ σ := ⟨fun _ _ => rfl, fun _ _ => rfl⟩
theorem KM.tr {σ σ1 σ2 : am_St} (h : KM σ σ1) (h2 : KM σ1 σ2) : KM σ σ2 := ⟨fun c hc => by rw [h2.1 c hc, h.1 c hc], fun j hj => by rw [h2.2 j hj, h.2 j hj]⟩
theorem KM.of {σ σ' : am_St} (h : ∀ c, (c < 42 ∨ c = 42 ∨ c = 43 ∨ c = 44 ∨ (46 ≤ c ∧ c ≤ 53) ∨ c = 69) → σ' c = σ c) : KM σ σ' := ⟨fun c hc => h c (by omega), fun j _ => by rw [h 42 (by omega)]⟩
theorem RM.keep {σ σ' : am_St} {T : tS} (h : RM σ T) (hk : KM σ σ') : RM σ' T := by
  obtain ⟨h1, h2, h3, h4, h5, h6, h7, h8⟩ := h
  unfold RM
  rw [hk.2 6 (by decide), hk.1 46 (by omega), hk.1 47 (by omega), hk.1 48 (by omega), hk.1 49 (by omega), hk.1 50 (by omega), hk.1 51 (by omega), hk.1 52 (by omega), hk.1 53 (by omega), hk.1 44 (by omega), hk.2 1 (by decide), hk.1 43 (by omega), hk.2 4 (by decide), hk.2 21 (by decide), hk.2 7 (by decide), hk.2 32 (by decide), hk.2 33 (by decide), hk.1 69 (by omega)]
  exact ⟨h1, h2, h3, h4, h5, h6, h7, h8⟩
theorem lc_lt (x y : Int64) : (lg_cmp x y < 0) = (x < y) := by
  apply propext
  rw [← Int32.not_le, lg_cmp_ge, Int64.not_le]
theorem lc_gt (x y : Int64) : (0 < lg_cmp x y) = (y < x) := by
  apply propext
  rw [← Int32.not_le, lg_cmp_le, Int64.not_le]
theorem c_in {d : Nat} {σ : am_St} {τ : Int64} {v lo hi : Int64} : am_call d 82 [.long v, .long lo, .long hi] σ τ = some (some (.int (if v < lo then 0 else if hi < v then 0 else 1)), σ, τ) := by
  show am_run d 82 0 [.long v, .null, .long lo, .null, .long hi, .null] [] σ τ = _
  by_cases h1 : v < lo
  · simp (disch := first | assumption | omega | rfl | exact Nat.le_of_ble_eq_true rfl | decide) only [r82_0, r82_1, r82_2, r82_3, r82_6, r82_7, r82_9, r82_10, r82_13, r82_14, r82_17, r82_18, am_nl_i, am_nl_r, am_nl_n, am_nl_l, Option.bind_some, Option.toList_some, Option.toList_none, List.cons_append, List.nil_append, if_true, if_false, Bool.false_eq_true, Int.reduceEq, Int.reduceAdd, ↓reduceIte, lc_lt, lc_gt, h1]
  · by_cases h2 : hi < v
    · simp (disch := first | assumption | omega | rfl | exact Nat.le_of_ble_eq_true rfl | decide) only [r82_0, r82_1, r82_2, r82_3, r82_6, r82_7, r82_9, r82_10, r82_13, r82_14, r82_17, r82_18, am_nl_i, am_nl_r, am_nl_n, am_nl_l, Option.bind_some, Option.toList_some, Option.toList_none, List.cons_append, List.nil_append, if_true, if_false, Bool.false_eq_true, Int.reduceEq, Int.reduceAdd, ↓reduceIte, lc_lt, lc_gt, h1, h2]
    · simp (disch := first | assumption | omega | rfl | exact Nat.le_of_ble_eq_true rfl | decide) only [r82_0, r82_1, r82_2, r82_3, r82_6, r82_7, r82_9, r82_10, r82_13, r82_14, r82_17, r82_18, am_nl_i, am_nl_r, am_nl_n, am_nl_l, Option.bind_some, Option.toList_some, Option.toList_none, List.cons_append, List.nil_append, if_true, if_false, Bool.false_eq_true, Int.reduceEq, Int.reduceAdd, ↓reduceIte, lc_lt, lc_gt, h1, h2]
theorem ll_lt (x y : Int32) : (x.toInt64 < y.toInt64) = (x < y) := by
  apply propext
  rw [Int64.lt_iff_toInt_lt, Int32.lt_iff_toInt_lt, Int32.toInt_toInt64, Int32.toInt_toInt64]
def inS (x lo hi : Int32) : Int32 := if x < lo then 0 else if hi < x then 0 else 1
theorem c_inI {d : Nat} {σ : am_St} {τ : Int64} {x lo hi : Int32} : am_call d 82 [.long x.toInt64, .long lo.toInt64, .long hi.toInt64] σ τ = some (some (.int (inS x lo hi)), σ, τ) := by
  rw [c_in]
  unfold inS
  simp only [ll_lt]
theorem c_in04 {d : Nat} {σ : am_St} {τ : Int64} {x : Int32} : am_call d 82 [.long x.toInt64, .long 0, .long 4] σ τ = some (some (.int (inS x 0 4)), σ, τ) := c_inI (lo := 0) (hi := 4)
theorem c_in03 {d : Nat} {σ : am_St} {τ : Int64} {x : Int32} : am_call d 82 [.long x.toInt64, .long 0, .long 3] σ τ = some (some (.int (inS x 0 3)), σ, τ) := c_inI (lo := 0) (hi := 3)
theorem c_in01 {d : Nat} {σ : am_St} {τ : Int64} {x : Int32} : am_call d 82 [.long x.toInt64, .long 0, .long 1] σ τ = some (some (.int (inS x 0 1)), σ, τ) := c_inI (lo := 0) (hi := 1)
theorem c_in00 {d : Nat} {σ : am_St} {τ : Int64} {x : Int32} : am_call d 82 [.long x.toInt64, .long 0, .long 0] σ τ = some (some (.int (inS x 0 0)), σ, τ) := c_inI (lo := 0) (hi := 0)
theorem c_in05 {d : Nat} {σ : am_St} {τ : Int64} {x : Int32} : am_call d 82 [.long x.toInt64, .long 0, .long 5] σ τ = some (some (.int (inS x 0 5)), σ, τ) := c_inI (lo := 0) (hi := 5)
theorem c_inm5 {d : Nat} {σ : am_St} {τ : Int64} {x : Int32} : am_call d 82 [.long x.toInt64, .long (-1), .long 5] σ τ = some (some (.int (inS x (-1) 5)), σ, τ) := c_inI (lo := -1) (hi := 5)
theorem c_in1021 {d : Nat} {σ : am_St} {τ : Int64} {x : Int32} : am_call d 82 [.long x.toInt64, .long 10, .long 21] σ τ = some (some (.int (inS x 10 21)), σ, τ) := c_inI (lo := 10) (hi := 21)
theorem c_in2535 {d : Nat} {σ : am_St} {τ : Int64} {x : Int32} : am_call d 82 [.long x.toInt64, .long 50, .long 53] σ τ = some (some (.int (inS x 50 53)), σ, τ) := c_inI (lo := 50) (hi := 53)
theorem inS_01 (x a b : Int32) : inS x a b = 0 ∨ inS x a b = 1 := by
  unfold inS
  repeat' split
  all_goals simp
/-! letters -/
theorem m_letters_scan {d : Nat} {σ : am_St} {τ : Int64} {w : Int64} : ∀ k i (lf : Int64) (v8 : Value), i + k = 8 → uN lf = uN w / 2 ^ (8 * i) → ∃ (lf' : Int64) (v8' : Value), am_run d 83 11 [.ref 42, .long w, .null, .int (nI (czN w i)), .int (if gdF w i = true then 1 else 0), .long lf, .null, .int (nI i), v8] [] σ τ = am_run d 83 83 [.ref 42, .long w, .null, .int (nI (czN w 8)), .int (if gdF w 8 = true then 1 else 0), .long lf', .null, .int (nI 8), v8'] [] σ τ := by
  intro k
  induction k with
  | zero =>
    intro i lf v8 hi hl
    have : i = 8 := by omega
    subst this
    refine ⟨lf, v8, ?_⟩
    rw [r83_11]
    simp (disch := first | assumption | omega | rfl | exact Nat.le_of_ble_eq_true rfl | decide) only [r83_0, r83_1, r83_2, r83_3, r83_5, r83_6, r83_8, r83_9, r83_13, r83_15, r83_18, r83_20, r83_23, r83_24, r83_25, r83_27, r83_29, r83_31, r83_32, r83_34, r83_36, r83_39, r83_41, r83_43, r83_46, r83_48, r83_51, r83_52, r83_54, r83_57, r83_58, r83_61, r83_62, r83_64, r83_65, r83_67, r83_70, r83_71, r83_74, r83_75, r83_76, r83_77, r83_80, r83_85, r83_88, r83_90, r83_91, r83_92, r83_95, r83_96, r83_97, r83_99, r83_102, r83_104, r83_105, r83_106, r83_108, r83_110, r83_111, r83_114, r83_115, r83_118, r83_119, r83_122, r83_123, r83_125, r83_127, r83_128, r83_129, r83_132, r83_133, r83_134, r83_135, r83_136, r83_136i, r83_137, r83_140, r83_141, r83_142, r83_145, r83_148, r83_151, r83_152, r83_155, am_gf_42_0, am_gf_42_1, am_pf_42_1, am_ai_43, am_nl_i, am_nl_r, am_nl_n, am_nl_l, Option.bind_some, Option.toList_some, Option.toList_none, List.cons_append, List.nil_append, if_true, if_false, Bool.false_eq_true, Int.reduceEq, Int.reduceAdd, ↓reduceIte, show (8 : Int32) = nI 8 from rfl, i_rf]
  | succ k ih =>
    intro i lf v8 hi hl
    have hc : ¬ 8 ≤ i := by omega
    have hb := byN_lt w i
    have hz := czN_le w i
    have eb : (lf &&& 255).toInt32 = nI (byN w i) := by rw [l_a, hl]; rfl
    have hsh := l_sh lf (k := 1) (by omega)
    have e8 : nI (8 * 1) = 8 := rfl
    rw [e8] at hsh
    generalize (lf.toUInt64 >>> ((8 : Int32).toInt64.toUInt64 &&& Int64.toUInt64 63)).toInt64 = lf2 at hsh
    obtain ⟨lf', v8', hi2⟩ := ih (i + 1) (lf.toUInt64 >>> ((8 : Int32).toInt64.toUInt64 &&& Int64.toUInt64 63)).toInt64 (.int (nI (byN w i))) (by omega) (by
      have h2 := l_sh lf (k := 1) (by omega)
      rw [e8] at h2
      rw [h2, hl, Nat.div_div_eq_div_mul, ← Nat.pow_add]
      rfl)
    refine ⟨lf', v8', ?_⟩
    rw [← hi2, r83_11, czN_s, gdF_s]
    have l8 : nI i < 8 := (nI_ltI (b := 8) (by omega) (by omega)).mpr (by omega)
    have l8' : ¬ 8 ≤ nI i := Int32.not_le.mpr l8
    cases hg : gdF w i with
    | false =>
      by_cases h0 : byN w i = 0
      · have ez : nI 0 = 0 := rfl
        have e0 : (0 : Int32) ≤ 0 := by decide
        simp (disch := first | assumption | omega | rfl | exact Nat.le_of_ble_eq_true rfl | decide) only [r83_0, r83_1, r83_2, r83_3, r83_5, r83_6, r83_8, r83_9, r83_13, r83_15, r83_18, r83_20, r83_23, r83_24, r83_25, r83_27, r83_29, r83_31, r83_32, r83_34, r83_36, r83_39, r83_41, r83_43, r83_46, r83_48, r83_51, r83_52, r83_54, r83_57, r83_58, r83_61, r83_62, r83_64, r83_65, r83_67, r83_70, r83_71, r83_74, r83_75, r83_76, r83_77, r83_80, r83_85, r83_88, r83_90, r83_91, r83_92, r83_95, r83_96, r83_97, r83_99, r83_102, r83_104, r83_105, r83_106, r83_108, r83_110, r83_111, r83_114, r83_115, r83_118, r83_119, r83_122, r83_123, r83_125, r83_127, r83_128, r83_129, r83_132, r83_133, r83_134, r83_135, r83_136, r83_136i, r83_137, r83_140, r83_141, r83_142, r83_145, r83_148, r83_151, r83_152, r83_155, am_gf_42_0, am_gf_42_1, am_pf_42_1, am_ai_43, am_nl_i, am_nl_r, am_nl_n, am_nl_l, Option.bind_some, Option.toList_some, Option.toList_none, List.cons_append, List.nil_append, if_true, if_false, Bool.false_eq_true, Int.reduceEq, Int.reduceAdd, ↓reduceIte, l8', eb, ez, e0, h0, Bool.false_and, nI_1, Nat.add_zero, show ∀ x : Int32, x + 0 = x from fun x => by simp]
      · have e0 : ¬ nI (byN w i) ≤ 0 := nI_nle (by omega) (by omega)
        simp (disch := first | assumption | omega | rfl | exact Nat.le_of_ble_eq_true rfl | decide) only [r83_0, r83_1, r83_2, r83_3, r83_5, r83_6, r83_8, r83_9, r83_13, r83_15, r83_18, r83_20, r83_23, r83_24, r83_25, r83_27, r83_29, r83_31, r83_32, r83_34, r83_36, r83_39, r83_41, r83_43, r83_46, r83_48, r83_51, r83_52, r83_54, r83_57, r83_58, r83_61, r83_62, r83_64, r83_65, r83_67, r83_70, r83_71, r83_74, r83_75, r83_76, r83_77, r83_80, r83_85, r83_88, r83_90, r83_91, r83_92, r83_95, r83_96, r83_97, r83_99, r83_102, r83_104, r83_105, r83_106, r83_108, r83_110, r83_111, r83_114, r83_115, r83_118, r83_119, r83_122, r83_123, r83_125, r83_127, r83_128, r83_129, r83_132, r83_133, r83_134, r83_135, r83_136, r83_136i, r83_137, r83_140, r83_141, r83_142, r83_145, r83_148, r83_151, r83_152, r83_155, am_gf_42_0, am_gf_42_1, am_pf_42_1, am_ai_43, am_nl_i, am_nl_r, am_nl_n, am_nl_l, Option.bind_some, Option.toList_some, Option.toList_none, List.cons_append, List.nil_append, if_true, if_false, Bool.false_eq_true, Int.reduceEq, Int.reduceAdd, ↓reduceIte, l8', eb, e0, h0, Bool.false_and, nI_1]
    | true =>
      by_cases h1 : byN w i ≤ 126
      · have h1' : ¬ 126 < nI (byN w i) := Int32.not_lt.mpr (nI_le (b := 126) h1 (by omega))
        by_cases h0 : byN w i = 0
        · have ez : nI 0 = 0 := rfl
          have e0 : ¬ (126 : Int32) < 0 := by decide
          have e1 : (0 : Int32) ≤ 0 := by decide
          have e2 : decide (0 ≤ 126) = true := by decide
          simp (disch := first | assumption | omega | rfl | exact Nat.le_of_ble_eq_true rfl | decide) only [r83_0, r83_1, r83_2, r83_3, r83_5, r83_6, r83_8, r83_9, r83_13, r83_15, r83_18, r83_20, r83_23, r83_24, r83_25, r83_27, r83_29, r83_31, r83_32, r83_34, r83_36, r83_39, r83_41, r83_43, r83_46, r83_48, r83_51, r83_52, r83_54, r83_57, r83_58, r83_61, r83_62, r83_64, r83_65, r83_67, r83_70, r83_71, r83_74, r83_75, r83_76, r83_77, r83_80, r83_85, r83_88, r83_90, r83_91, r83_92, r83_95, r83_96, r83_97, r83_99, r83_102, r83_104, r83_105, r83_106, r83_108, r83_110, r83_111, r83_114, r83_115, r83_118, r83_119, r83_122, r83_123, r83_125, r83_127, r83_128, r83_129, r83_132, r83_133, r83_134, r83_135, r83_136, r83_136i, r83_137, r83_140, r83_141, r83_142, r83_145, r83_148, r83_151, r83_152, r83_155, am_gf_42_0, am_gf_42_1, am_pf_42_1, am_ai_43, am_nl_i, am_nl_r, am_nl_n, am_nl_l, Option.bind_some, Option.toList_some, Option.toList_none, List.cons_append, List.nil_append, if_true, if_false, Bool.false_eq_true, Int.reduceEq, Int.reduceAdd, ↓reduceIte, l8', eb, ez, e0, e1, h0, e10, nI_1, Nat.add_zero, e2, decide_true, Bool.true_or, Bool.and_self, show ∀ x : Int32, x + 0 = x from fun x => by simp]
        · have e0 : ¬ nI (byN w i) ≤ 0 := nI_nle (by omega) (by omega)
          have ez : ¬ nI (byN w i) = 0 := nI_ne0 (by omega) (by omega)
          by_cases hk : czN w i = i
          · have hk2 : nI (czN w i) = nI i := by rw [hk]
            simp (disch := first | assumption | omega | rfl | exact Nat.le_of_ble_eq_true rfl | decide) only [r83_0, r83_1, r83_2, r83_3, r83_5, r83_6, r83_8, r83_9, r83_13, r83_15, r83_18, r83_20, r83_23, r83_24, r83_25, r83_27, r83_29, r83_31, r83_32, r83_34, r83_36, r83_39, r83_41, r83_43, r83_46, r83_48, r83_51, r83_52, r83_54, r83_57, r83_58, r83_61, r83_62, r83_64, r83_65, r83_67, r83_70, r83_71, r83_74, r83_75, r83_76, r83_77, r83_80, r83_85, r83_88, r83_90, r83_91, r83_92, r83_95, r83_96, r83_97, r83_99, r83_102, r83_104, r83_105, r83_106, r83_108, r83_110, r83_111, r83_114, r83_115, r83_118, r83_119, r83_122, r83_123, r83_125, r83_127, r83_128, r83_129, r83_132, r83_133, r83_134, r83_135, r83_136, r83_136i, r83_137, r83_140, r83_141, r83_142, r83_145, r83_148, r83_151, r83_152, r83_155, am_gf_42_0, am_gf_42_1, am_pf_42_1, am_ai_43, am_nl_i, am_nl_r, am_nl_n, am_nl_l, Option.bind_some, Option.toList_some, Option.toList_none, List.cons_append, List.nil_append, if_true, if_false, Bool.false_eq_true, Int.reduceEq, Int.reduceAdd, ↓reduceIte, l8', eb, ez, e0, h0, e10, h1', h1, hk, nI_1, decide_true, Bool.or_true, Bool.and_self]
          · have hk2 : ¬ nI (czN w i) = nI i := by rw [ni_eq (by omega) (by omega)]; exact hk
            simp (disch := first | assumption | omega | rfl | exact Nat.le_of_ble_eq_true rfl | decide) only [r83_0, r83_1, r83_2, r83_3, r83_5, r83_6, r83_8, r83_9, r83_13, r83_15, r83_18, r83_20, r83_23, r83_24, r83_25, r83_27, r83_29, r83_31, r83_32, r83_34, r83_36, r83_39, r83_41, r83_43, r83_46, r83_48, r83_51, r83_52, r83_54, r83_57, r83_58, r83_61, r83_62, r83_64, r83_65, r83_67, r83_70, r83_71, r83_74, r83_75, r83_76, r83_77, r83_80, r83_85, r83_88, r83_90, r83_91, r83_92, r83_95, r83_96, r83_97, r83_99, r83_102, r83_104, r83_105, r83_106, r83_108, r83_110, r83_111, r83_114, r83_115, r83_118, r83_119, r83_122, r83_123, r83_125, r83_127, r83_128, r83_129, r83_132, r83_133, r83_134, r83_135, r83_136, r83_136i, r83_137, r83_140, r83_141, r83_142, r83_145, r83_148, r83_151, r83_152, r83_155, am_gf_42_0, am_gf_42_1, am_pf_42_1, am_ai_43, am_nl_i, am_nl_r, am_nl_n, am_nl_l, Option.bind_some, Option.toList_some, Option.toList_none, List.cons_append, List.nil_append, if_true, if_false, Bool.false_eq_true, Int.reduceEq, Int.reduceAdd, ↓reduceIte, l8', eb, ez, e0, h0, e10, h1', h1, hk2, hk, nI_1, decide_true, decide_false, Bool.or_self, Bool.and_false]
      · have h1' : 126 < nI (byN w i) := (nI_ltI (a := 126) (by omega) (by omega)).mpr (by omega)
        have h0 : ¬ byN w i = 0 := by omega
        have e0 : ¬ nI (byN w i) ≤ 0 := nI_nle (by omega) (by omega)
        simp (disch := first | assumption | omega | rfl | exact Nat.le_of_ble_eq_true rfl | decide) only [r83_0, r83_1, r83_2, r83_3, r83_5, r83_6, r83_8, r83_9, r83_13, r83_15, r83_18, r83_20, r83_23, r83_24, r83_25, r83_27, r83_29, r83_31, r83_32, r83_34, r83_36, r83_39, r83_41, r83_43, r83_46, r83_48, r83_51, r83_52, r83_54, r83_57, r83_58, r83_61, r83_62, r83_64, r83_65, r83_67, r83_70, r83_71, r83_74, r83_75, r83_76, r83_77, r83_80, r83_85, r83_88, r83_90, r83_91, r83_92, r83_95, r83_96, r83_97, r83_99, r83_102, r83_104, r83_105, r83_106, r83_108, r83_110, r83_111, r83_114, r83_115, r83_118, r83_119, r83_122, r83_123, r83_125, r83_127, r83_128, r83_129, r83_132, r83_133, r83_134, r83_135, r83_136, r83_136i, r83_137, r83_140, r83_141, r83_142, r83_145, r83_148, r83_151, r83_152, r83_155, am_gf_42_0, am_gf_42_1, am_pf_42_1, am_ai_43, am_nl_i, am_nl_r, am_nl_n, am_nl_l, Option.bind_some, Option.toList_some, Option.toList_none, List.cons_append, List.nil_append, if_true, if_false, Bool.false_eq_true, Int.reduceEq, Int.reduceAdd, ↓reduceIte, l8', eb, e0, h0, e10, h1', h1, nI_1, decide_false, Bool.false_and, Bool.and_false]
theorem m_letters_put {d n q : Nat} {τ : Int64} {w : Int64} {v4 v5 v6 v8 : Value} (hv6 : am_nl v6 = v6) (hq : q ≤ 8) (hnq : n + q ≤ 16) : ∀ k i (σ : am_St), i + k = q → σ 42 1 = nI (n + i) → ∃ σ' : am_St, am_run d 83 108 [.ref 42, .long w, .null, .int (nI q), v4, v5, v6, .int (nI i), v8] [] σ τ = some (some (.int (nI (n + q))), σ', τ) ∧ (∀ c, c ≠ 42 → c ≠ 43 → σ' c = σ c) ∧ (∀ j, j ≠ 1 → σ' 42 j = σ 42 j) ∧ σ' 42 1 = nI (n + q) ∧ ∀ j, σ' 43 j = if n + i ≤ j ∧ j < n + q then nI (byN w (j - n)) else σ 43 j := by
  intro k
  induction k with
  | zero =>
    intro i σ hi hn
    have e : i = q := by omega
    subst e
    refine ⟨σ, ?_, fun _ _ _ => rfl, fun _ _ => rfl, hn, fun j => by rw [if_neg (by omega)]⟩
    rw [r83_108]
    simp (disch := first | assumption | omega | rfl | exact Nat.le_of_ble_eq_true rfl | decide) only [r83_0, r83_1, r83_2, r83_3, r83_5, r83_6, r83_8, r83_9, r83_11, r83_13, r83_15, r83_18, r83_20, r83_23, r83_24, r83_25, r83_27, r83_29, r83_31, r83_32, r83_34, r83_36, r83_39, r83_41, r83_43, r83_46, r83_48, r83_51, r83_52, r83_54, r83_57, r83_58, r83_61, r83_62, r83_64, r83_65, r83_67, r83_70, r83_71, r83_74, r83_75, r83_76, r83_77, r83_80, r83_83, r83_85, r83_88, r83_90, r83_91, r83_92, r83_95, r83_96, r83_97, r83_99, r83_102, r83_104, r83_105, r83_106, r83_110, r83_111, r83_114, r83_115, r83_118, r83_119, r83_122, r83_123, r83_125, r83_127, r83_128, r83_129, r83_132, r83_133, r83_134, r83_135, r83_136, r83_136i, r83_137, r83_140, r83_141, r83_142, r83_145, r83_148, r83_151, r83_152, r83_155, am_gf_42_0, am_gf_42_1, am_pf_42_1, am_ai_43, am_nl_i, am_nl_r, am_nl_n, am_nl_l, Option.bind_some, Option.toList_some, Option.toList_none, List.cons_append, List.nil_append, if_true, if_false, Bool.false_eq_true, Int.reduceEq, Int.reduceAdd, ↓reduceIte, i_rf, hn]
  | succ k ih =>
    intro i σ hi hn
    have hc : ¬ q ≤ i := by omega
    have hi8 : i < 8 := by omega
    have hni : n + i < 16 := by omega
    have eb : ((w.toUInt64 >>> ((nI (8 * i)).toInt64.toUInt64 &&& Int64.toUInt64 63)).toInt64 &&& 255).toInt32 = nI (byN w i) := by rw [l_a, l_sh w hi8]; rfl
    obtain ⟨σ', g1, g2, g2', g3, g4⟩ := ih (i + 1) (am_up (am_up σ 43 (n + i) (nI (byN w i))) 42 1 (nI (n + i + 1))) (by omega) (by rw [am_up_eq, pk_us]; rfl)
    refine ⟨σ', ?_, fun c x y => by rw [g2 c x y, am_up_ne x, am_up_ne y], fun j hj => by rw [g2' j hj, am_up_eq, pk_un hj, am_up_ne (by decide)], g3, fun j => ?_⟩
    · rw [← g1, r83_108]
      simp (disch := first | assumption | omega | rfl | exact Nat.le_of_ble_eq_true rfl | decide) only [r83_0, r83_1, r83_2, r83_3, r83_5, r83_6, r83_8, r83_9, r83_11, r83_13, r83_15, r83_18, r83_20, r83_23, r83_24, r83_25, r83_27, r83_29, r83_31, r83_32, r83_34, r83_36, r83_39, r83_41, r83_43, r83_46, r83_48, r83_51, r83_52, r83_54, r83_57, r83_58, r83_61, r83_62, r83_64, r83_65, r83_67, r83_70, r83_71, r83_74, r83_75, r83_76, r83_77, r83_80, r83_83, r83_85, r83_88, r83_90, r83_91, r83_92, r83_95, r83_96, r83_97, r83_99, r83_102, r83_104, r83_105, r83_106, r83_110, r83_111, r83_114, r83_115, r83_118, r83_119, r83_122, r83_123, r83_125, r83_127, r83_128, r83_129, r83_132, r83_133, r83_134, r83_135, r83_136, r83_136i, r83_137, r83_140, r83_141, r83_142, r83_145, r83_148, r83_151, r83_152, r83_155, am_gf_42_0, am_gf_42_1, am_pf_42_1, am_ai_43, am_nl_i, am_nl_r, am_nl_n, am_nl_l, Option.bind_some, Option.toList_some, Option.toList_none, List.cons_append, List.nil_append, if_true, if_false, Bool.false_eq_true, Int.reduceEq, Int.reduceAdd, ↓reduceIte, ni_le, hc, hn, show (8 : Int32) = nI 8 from rfl, pk_mul, eb, am_up_ne, nI_1, hv6]
    · rw [g4 j, am_up_ne (by decide), am_up_eq]
      unfold upd
      by_cases h : j = n + i
      · subst h
        rw [if_neg (by omega), if_pos rfl, if_pos (by omega), show n + i - n = i by omega]
      · rw [if_neg h]
        by_cases h2 : n + (i + 1) ≤ j ∧ j < n + q
        · rw [if_pos h2, if_pos (by omega)]
        · rw [if_neg h2, if_neg (by omega)]
theorem m_letters {d : Nat} {σ : am_St} {τ : Int64} {T : tS} {w : Int64} (hR : RM σ T) (hW : WF T) : ∃ σ' : am_St, am_call d 83 [.ref 42, .long w] σ τ = some (some (.int (sp_letters T w).1), σ', τ) ∧ RM σ' (sp_letters T w).2 ∧ ∀ c, c < 42 → σ' c = σ c := by
  have hp := hR.2.2.2.1.1
  have h16 := hW.2.2.2.2.1
  have hz := czN_le w 8
  obtain ⟨lf', v8', h1⟩ := m_letters_scan (d := d) (σ := σ) (τ := τ) (w := w) 8 0 w .null rfl (by simp)
  have beg : am_call d 83 [.ref 42, .long w] σ τ = am_run d 83 83 [.ref 42, .long w, .null, .int (nI (czN w 8)), .int (if gdF w 8 = true then 1 else 0), .long lf', .null, .int (nI 8), v8'] [] σ τ := by
    rw [← h1]
    show am_run d 83 0 [.ref 42, .long w, .null, .null, .null, .null, .null, .null, .null] [] σ τ = _
    simp (disch := first | assumption | omega | rfl | exact Nat.le_of_ble_eq_true rfl | decide) only [r83_0, r83_1, r83_2, r83_3, r83_5, r83_6, r83_8, r83_9, r83_13, r83_15, r83_18, r83_20, r83_23, r83_24, r83_25, r83_27, r83_29, r83_31, r83_32, r83_34, r83_36, r83_39, r83_41, r83_43, r83_46, r83_48, r83_51, r83_52, r83_54, r83_57, r83_58, r83_61, r83_62, r83_64, r83_65, r83_67, r83_70, r83_71, r83_74, r83_75, r83_76, r83_77, r83_80, r83_83, r83_85, r83_88, r83_90, r83_91, r83_92, r83_95, r83_96, r83_97, r83_99, r83_102, r83_104, r83_105, r83_106, r83_108, r83_110, r83_111, r83_114, r83_115, r83_118, r83_119, r83_122, r83_123, r83_125, r83_127, r83_128, r83_129, r83_132, r83_133, r83_134, r83_135, r83_136, r83_136i, r83_137, r83_140, r83_141, r83_142, r83_145, r83_148, r83_151, r83_152, r83_155, am_gf_42_0, am_gf_42_1, am_pf_42_1, am_ai_43, am_nl_i, am_nl_r, am_nl_n, am_nl_l, Option.bind_some, Option.toList_some, Option.toList_none, List.cons_append, List.nil_append, if_true, if_false, Bool.false_eq_true, Int.reduceEq, Int.reduceAdd, ↓reduceIte]
    rfl
  rw [beg, r83_83]
  unfold sp_letters
  cases hg : gdF w 8 with
  | false =>
    rw [if_pos (show false = false from rfl)]
    refine ⟨σ, ?_, hR, fun _ _ => rfl⟩
    simp (disch := first | assumption | omega | rfl | exact Nat.le_of_ble_eq_true rfl | decide) only [r83_0, r83_1, r83_2, r83_3, r83_5, r83_6, r83_8, r83_9, r83_11, r83_13, r83_15, r83_18, r83_20, r83_23, r83_24, r83_25, r83_27, r83_29, r83_31, r83_32, r83_34, r83_36, r83_39, r83_41, r83_43, r83_46, r83_48, r83_51, r83_52, r83_54, r83_57, r83_58, r83_61, r83_62, r83_64, r83_65, r83_67, r83_70, r83_71, r83_74, r83_75, r83_76, r83_77, r83_80, r83_85, r83_88, r83_90, r83_91, r83_92, r83_95, r83_96, r83_97, r83_99, r83_102, r83_104, r83_105, r83_106, r83_108, r83_110, r83_111, r83_114, r83_115, r83_118, r83_119, r83_122, r83_123, r83_125, r83_127, r83_128, r83_129, r83_132, r83_133, r83_134, r83_135, r83_136, r83_136i, r83_137, r83_140, r83_141, r83_142, r83_145, r83_148, r83_151, r83_152, r83_155, am_gf_42_0, am_gf_42_1, am_pf_42_1, am_ai_43, am_nl_i, am_nl_r, am_nl_n, am_nl_l, Option.bind_some, Option.toList_some, Option.toList_none, List.cons_append, List.nil_append, if_true, if_false, Bool.false_eq_true, Int.reduceEq, Int.reduceAdd, ↓reduceIte]
  | true =>
    rw [if_neg (show ¬ true = false by decide)]
    by_cases hf : 16 < s_pl T + czN w 8
    · rw [if_pos hf]
      refine ⟨σ, ?_, hR, fun _ _ => rfl⟩
      have hf2 : ¬ s_pl T + czN w 8 ≤ 16 := by omega
      simp (disch := first | assumption | omega | rfl | exact Nat.le_of_ble_eq_true rfl | decide) only [r83_0, r83_1, r83_2, r83_3, r83_5, r83_6, r83_8, r83_9, r83_11, r83_13, r83_15, r83_18, r83_20, r83_23, r83_24, r83_25, r83_27, r83_29, r83_31, r83_32, r83_34, r83_36, r83_39, r83_41, r83_43, r83_46, r83_48, r83_51, r83_52, r83_54, r83_57, r83_58, r83_61, r83_62, r83_64, r83_65, r83_67, r83_70, r83_71, r83_74, r83_75, r83_76, r83_77, r83_80, r83_85, r83_88, r83_90, r83_91, r83_92, r83_95, r83_96, r83_97, r83_99, r83_102, r83_104, r83_105, r83_106, r83_108, r83_110, r83_111, r83_114, r83_115, r83_118, r83_119, r83_122, r83_123, r83_125, r83_127, r83_128, r83_129, r83_132, r83_133, r83_134, r83_135, r83_136, r83_136i, r83_137, r83_140, r83_141, r83_142, r83_145, r83_148, r83_151, r83_152, r83_155, am_gf_42_0, am_gf_42_1, am_pf_42_1, am_ai_43, am_nl_i, am_nl_r, am_nl_n, am_nl_l, Option.bind_some, Option.toList_some, Option.toList_none, List.cons_append, List.nil_append, if_true, if_false, Bool.false_eq_true, Int.reduceEq, Int.reduceAdd, ↓reduceIte, e10, hp, nI_add, show (16 : Int32) = nI 16 from rfl, ni_le, hf2]
    · rw [if_neg hf]
      have hf2 : s_pl T + czN w 8 ≤ 16 := by omega
      obtain ⟨σ', g1, g2, g2', g3, g4⟩ := m_letters_put (d := d) (n := s_pl T) (q := czN w 8) (τ := τ) (w := w) (v4 := .int 1) (v5 := .long lf') (v6 := .null) (v8 := v8') rfl hz hf2 (czN w 8) 0 σ (by omega) hp
      refine ⟨σ', ?_, ?_, fun c hc => g2 c (by omega) (by omega)⟩
      · simp (disch := first | assumption | omega | rfl | exact Nat.le_of_ble_eq_true rfl | decide) only [r83_0, r83_1, r83_2, r83_3, r83_5, r83_6, r83_8, r83_9, r83_11, r83_13, r83_15, r83_18, r83_20, r83_23, r83_24, r83_25, r83_27, r83_29, r83_31, r83_32, r83_34, r83_36, r83_39, r83_41, r83_43, r83_46, r83_48, r83_51, r83_52, r83_54, r83_57, r83_58, r83_61, r83_62, r83_64, r83_65, r83_67, r83_70, r83_71, r83_74, r83_75, r83_76, r83_77, r83_80, r83_85, r83_88, r83_90, r83_91, r83_92, r83_95, r83_96, r83_97, r83_99, r83_102, r83_104, r83_105, r83_106, r83_110, r83_111, r83_114, r83_115, r83_118, r83_119, r83_122, r83_123, r83_125, r83_127, r83_128, r83_129, r83_132, r83_133, r83_134, r83_135, r83_136, r83_136i, r83_137, r83_140, r83_141, r83_142, r83_145, r83_148, r83_151, r83_152, r83_155, am_gf_42_0, am_gf_42_1, am_pf_42_1, am_ai_43, am_nl_i, am_nl_r, am_nl_n, am_nl_l, Option.bind_some, Option.toList_some, Option.toList_none, List.cons_append, List.nil_append, if_true, if_false, Bool.false_eq_true, Int.reduceEq, Int.reduceAdd, ↓reduceIte, e10, hp, nI_add, show (16 : Int32) = nI 16 from rfl, ni_le, hf2]
        exact g1
      · obtain ⟨r1, r2, r3, r4, r5, r6, r7, r8⟩ := hR
        refine ⟨by rw [g2' 6 (by decide)]; exact r1, fun i hi => ?_, fun i hi => by rw [g2 44 (by decide) (by decide)]; exact r3 i hi, ⟨g3, fun j hj => ?_⟩, by rw [g2' 4 (by decide)]; exact r5, by rw [g2' 21 (by decide)]; exact r6, by rw [g2' 7 (by decide)]; exact r7, ?_⟩
        · rw [g2 46 (by decide) (by decide), g2 47 (by decide) (by decide), g2 48 (by decide) (by decide), g2 49 (by decide) (by decide), g2 50 (by decide) (by decide), g2 51 (by decide) (by decide), g2 52 (by decide) (by decide), g2 53 (by decide) (by decide)]
          exact r2 i hi
        · have hj : j < s_pl T + czN w 8 := hj
          show σ' 43 j = ltP T w j
          rw [g4 j]
          unfold ltP
          by_cases h : s_pl T ≤ j
          · rw [if_pos h, if_pos ⟨h, hj⟩]
          · rw [if_neg h, if_neg (by omega)]
            exact r4.2 j (by omega)
        · rw [g2' 32 (by decide), g2' 33 (by decide), g2 69 (by decide) (by decide)]
          exact r8
theorem m_blank {d : Nat} {σ : am_St} {τ : Int64} {T : tS} (hR : RM σ T) : ∃ σ' : am_St, am_call d 84 [.ref 42] σ τ = some (some (.int (sp_blank T).1), σ', τ) ∧ RM σ' (sp_blank T).2 ∧ ∀ c, c < 42 → σ' c = σ c := by
  refine ⟨am_up σ 42 1 0, ?_, ?_, fun c hc => am_up_ne (by omega)⟩
  · show am_run d 84 0 [.ref 42, .null] [] σ τ = _
    simp (disch := first | assumption | omega | rfl | exact Nat.le_of_ble_eq_true rfl | decide) only [r84_0, r84_1, r84_4, r84_5, r84_6, r84_7, r84_10, r84_11, am_gf_42_1, am_pf_42_1, am_nl_i, am_nl_r, am_nl_n, am_nl_l, Option.bind_some, Option.toList_some, Option.toList_none, List.cons_append, List.nil_append, if_true, if_false, Bool.false_eq_true, Int.reduceEq, Int.reduceAdd, ↓reduceIte, hR.2.2.2.1.1]
    rfl
  · obtain ⟨r1, r2, r3, r4, r5, r6, r7, r8⟩ := hR
    refine ⟨by rw [am_up_eq, pk_un (by decide)]; exact r1, fun i hi => by simp (disch := decide) only [am_up_ne]; exact r2 i hi, fun i hi => by rw [am_up_ne (by decide)]; exact r3 i hi, ⟨by rw [am_up_eq, pk_us]; rfl, fun j hj => absurd hj (Nat.not_lt_zero j)⟩, by rw [am_up_eq, pk_un (by decide)]; exact r5, by rw [am_up_eq, pk_un (by decide)]; exact r6, by rw [am_up_eq, pk_un (by decide)]; exact r7, ?_⟩
    rw [am_up_eq, pk_un (by decide), pk_un (by decide), am_up_ne (by decide)]
    exact r8
