/-! OtherName$Couples: allowed, findWomen -/
/-- two may wed -/
def mayB (sx al nm : Nat → Int32) (dst : Nat → Nat → Int32) (a b : Nat) : Bool := !decide (sx a = sx b) && (!decide (al a = 0) && (!decide (al b = 0) && (!decide (nm a = nm b) && (decide (dst a b = -1) || decide (3 < dst a b)))))
/-- the distance as the steps tell it -/
def dsS (u : Nat → Int32) (n a b : Nat) : Int32 := dstF (fun j => u (a * 12 + j)) (fun j => u (b * 12 + j)) n
theorem c_allowed {d n a b : Nat} {σ : am_St} {τ : Int64} (hn : σ 4 0 = nI n) (h12 : n ≤ 12) (ha : a < 12) (hb : b < 12) : am_call (d + 2) 0 [.ref 34, .int (nI a), .int (nI b)] σ τ = some (some (.int (if mayB (σ 6) (σ 13) (σ 16) (dsS (σ 14) n) a b = true then 1 else 0)), σ, τ) := by
  show am_run (d + 2) 0 0 [.ref 34, .int (nI a), .int (nI b), .null] [] σ τ = _
  unfold mayB
  by_cases h1 : σ 6 a = σ 6 b
  · simp (disch := first | assumption | omega | rfl | exact Nat.le_of_ble_eq_true rfl | decide) only [r0_0, r0_1, r0_4, r0_7, r0_8, r0_9, r0_10, r0_13, r0_16, r0_17, r0_18, r0_21, r0_22, r0_25, r0_28, r0_29, r0_30, r0_33, r0_34, r0_37, r0_40, r0_41, r0_42, r0_45, r0_46, r0_49, r0_52, r0_53, r0_54, r0_55, r0_58, r0_61, r0_62, r0_63, r0_66, r0_67, r0_68, r0_69, r0_72, r0_73, r0_74, r0_77, r0_78, r0_79, r0_80, r0_83, r0_84, r0_85, r0_88, r0_89, r0_92, r0_93, am_gf_34_5, am_gf_34_6, am_gf_4_2, am_gf_4_9, am_gf_15_0, am_gf_18_0, am_ai_6, am_ai_13, am_ai_16, am_ai_19, am_nl_i, am_nl_r, am_nl_n, am_nl_l, Option.bind_some, Option.toList_some, Option.toList_none, List.cons_append, List.nil_append, if_true, if_false, Bool.false_eq_true, Int.reduceEq, Int.reduceAdd, ↓reduceIte, h1]
    simp
  · by_cases h2 : σ 13 a = 0
    · simp (disch := first | assumption | omega | rfl | exact Nat.le_of_ble_eq_true rfl | decide) only [r0_0, r0_1, r0_4, r0_7, r0_8, r0_9, r0_10, r0_13, r0_16, r0_17, r0_18, r0_21, r0_22, r0_25, r0_28, r0_29, r0_30, r0_33, r0_34, r0_37, r0_40, r0_41, r0_42, r0_45, r0_46, r0_49, r0_52, r0_53, r0_54, r0_55, r0_58, r0_61, r0_62, r0_63, r0_66, r0_67, r0_68, r0_69, r0_72, r0_73, r0_74, r0_77, r0_78, r0_79, r0_80, r0_83, r0_84, r0_85, r0_88, r0_89, r0_92, r0_93, am_gf_34_5, am_gf_34_6, am_gf_4_2, am_gf_4_9, am_gf_15_0, am_gf_18_0, am_ai_6, am_ai_13, am_ai_16, am_ai_19, am_nl_i, am_nl_r, am_nl_n, am_nl_l, Option.bind_some, Option.toList_some, Option.toList_none, List.cons_append, List.nil_append, if_true, if_false, Bool.false_eq_true, Int.reduceEq, Int.reduceAdd, ↓reduceIte, h1, h2]
      simp
    · by_cases h3 : σ 13 b = 0
      · simp (disch := first | assumption | omega | rfl | exact Nat.le_of_ble_eq_true rfl | decide) only [r0_0, r0_1, r0_4, r0_7, r0_8, r0_9, r0_10, r0_13, r0_16, r0_17, r0_18, r0_21, r0_22, r0_25, r0_28, r0_29, r0_30, r0_33, r0_34, r0_37, r0_40, r0_41, r0_42, r0_45, r0_46, r0_49, r0_52, r0_53, r0_54, r0_55, r0_58, r0_61, r0_62, r0_63, r0_66, r0_67, r0_68, r0_69, r0_72, r0_73, r0_74, r0_77, r0_78, r0_79, r0_80, r0_83, r0_84, r0_85, r0_88, r0_89, r0_92, r0_93, am_gf_34_5, am_gf_34_6, am_gf_4_2, am_gf_4_9, am_gf_15_0, am_gf_18_0, am_ai_6, am_ai_13, am_ai_16, am_ai_19, am_nl_i, am_nl_r, am_nl_n, am_nl_l, Option.bind_some, Option.toList_some, Option.toList_none, List.cons_append, List.nil_append, if_true, if_false, Bool.false_eq_true, Int.reduceEq, Int.reduceAdd, ↓reduceIte, h1, h2, h3]
        simp
      · by_cases h4 : σ 16 a = σ 16 b
        · simp (disch := first | assumption | omega | rfl | exact Nat.le_of_ble_eq_true rfl | decide) only [r0_0, r0_1, r0_4, r0_7, r0_8, r0_9, r0_10, r0_13, r0_16, r0_17, r0_18, r0_21, r0_22, r0_25, r0_28, r0_29, r0_30, r0_33, r0_34, r0_37, r0_40, r0_41, r0_42, r0_45, r0_46, r0_49, r0_52, r0_53, r0_54, r0_55, r0_58, r0_61, r0_62, r0_63, r0_66, r0_67, r0_68, r0_69, r0_72, r0_73, r0_74, r0_77, r0_78, r0_79, r0_80, r0_83, r0_84, r0_85, r0_88, r0_89, r0_92, r0_93, am_gf_34_5, am_gf_34_6, am_gf_4_2, am_gf_4_9, am_gf_15_0, am_gf_18_0, am_ai_6, am_ai_13, am_ai_16, am_ai_19, am_nl_i, am_nl_r, am_nl_n, am_nl_l, Option.bind_some, Option.toList_some, Option.toList_none, List.cons_append, List.nil_append, if_true, if_false, Bool.false_eq_true, Int.reduceEq, Int.reduceAdd, ↓reduceIte, h1, h2, h3, h4]
          simp
        · have hd : am_call (d + 1) 18 [.ref 4, .int (nI a), .int (nI b)] σ τ = some (some (.int (dsS (σ 14) n a b)), σ, τ) := c_distance hn h12 ha hb
          by_cases h5 : dsS (σ 14) n a b = -1
          · simp (disch := first | assumption | omega | rfl | exact Nat.le_of_ble_eq_true rfl | decide) only [r0_0, r0_1, r0_4, r0_7, r0_8, r0_9, r0_10, r0_13, r0_16, r0_17, r0_18, r0_21, r0_22, r0_25, r0_28, r0_29, r0_30, r0_33, r0_34, r0_37, r0_40, r0_41, r0_42, r0_45, r0_46, r0_49, r0_52, r0_53, r0_54, r0_55, r0_58, r0_61, r0_62, r0_63, r0_66, r0_67, r0_68, r0_69, r0_72, r0_73, r0_74, r0_77, r0_78, r0_79, r0_80, r0_83, r0_84, r0_85, r0_88, r0_89, r0_92, r0_93, am_gf_34_5, am_gf_34_6, am_gf_4_2, am_gf_4_9, am_gf_15_0, am_gf_18_0, am_ai_6, am_ai_13, am_ai_16, am_ai_19, am_nl_i, am_nl_r, am_nl_n, am_nl_l, Option.bind_some, Option.toList_some, Option.toList_none, List.cons_append, List.nil_append, if_true, if_false, Bool.false_eq_true, Int.reduceEq, Int.reduceAdd, ↓reduceIte, h1, h2, h3, h4, hd, h5]
            simp [h1, h2, h3, h4]
          · by_cases h6 : dsS (σ 14) n a b ≤ 3
            · have h7 : ¬ 3 < dsS (σ 14) n a b := Int32.not_lt.mpr h6
              simp (disch := first | assumption | omega | rfl | exact Nat.le_of_ble_eq_true rfl | decide) only [r0_0, r0_1, r0_4, r0_7, r0_8, r0_9, r0_10, r0_13, r0_16, r0_17, r0_18, r0_21, r0_22, r0_25, r0_28, r0_29, r0_30, r0_33, r0_34, r0_37, r0_40, r0_41, r0_42, r0_45, r0_46, r0_49, r0_52, r0_53, r0_54, r0_55, r0_58, r0_61, r0_62, r0_63, r0_66, r0_67, r0_68, r0_69, r0_72, r0_73, r0_74, r0_77, r0_78, r0_79, r0_80, r0_83, r0_84, r0_85, r0_88, r0_89, r0_92, r0_93, am_gf_34_5, am_gf_34_6, am_gf_4_2, am_gf_4_9, am_gf_15_0, am_gf_18_0, am_ai_6, am_ai_13, am_ai_16, am_ai_19, am_nl_i, am_nl_r, am_nl_n, am_nl_l, Option.bind_some, Option.toList_some, Option.toList_none, List.cons_append, List.nil_append, if_true, if_false, Bool.false_eq_true, Int.reduceEq, Int.reduceAdd, ↓reduceIte, h1, h2, h3, h4, hd, h5, h6]
              simp [h5, h7]
            · have h7 : 3 < dsS (σ 14) n a b := Int32.not_le.mp h6
              simp (disch := first | assumption | omega | rfl | exact Nat.le_of_ble_eq_true rfl | decide) only [r0_0, r0_1, r0_4, r0_7, r0_8, r0_9, r0_10, r0_13, r0_16, r0_17, r0_18, r0_21, r0_22, r0_25, r0_28, r0_29, r0_30, r0_33, r0_34, r0_37, r0_40, r0_41, r0_42, r0_45, r0_46, r0_49, r0_52, r0_53, r0_54, r0_55, r0_58, r0_61, r0_62, r0_63, r0_66, r0_67, r0_68, r0_69, r0_72, r0_73, r0_74, r0_77, r0_78, r0_79, r0_80, r0_83, r0_84, r0_85, r0_88, r0_89, r0_92, r0_93, am_gf_34_5, am_gf_34_6, am_gf_4_2, am_gf_4_9, am_gf_15_0, am_gf_18_0, am_ai_6, am_ai_13, am_ai_16, am_ai_19, am_nl_i, am_nl_r, am_nl_n, am_nl_l, Option.bind_some, Option.toList_some, Option.toList_none, List.cons_append, List.nil_append, if_true, if_false, Bool.false_eq_true, Int.reduceEq, Int.reduceAdd, ↓reduceIte, h1, h2, h3, h4, hd, h5, h6]
              simp [h1, h2, h3, h4, h7]
theorem c_findWomen_0 {d : Nat} {τ : Int64} : ∀ k i (v2 : Value) (σ : am_St), i + k = 12 → (∀ j, j < i → σ 35 j = -1 ∧ σ 36 j = 0) → ∃ σ' : am_St, am_run d 2 2 [.ref 34, .int (nI i), v2] [] σ τ = am_run d 2 28 [.ref 34, .int (nI 12), v2] [] σ' τ ∧ (∀ a, a ≠ 35 → a ≠ 36 → σ' a = σ a) ∧ ∀ j, j < 12 → σ' 35 j = -1 ∧ σ' 36 j = 0 := by
  intro k
  induction k with
  | zero =>
    intro i v2 σ hi hC
    have e : i = 12 := by omega
    subst e
    refine ⟨σ, ?_, fun _ _ _ => rfl, hC⟩
    rw [r2_2]
    simp (disch := first | assumption | omega | rfl | exact Nat.le_of_ble_eq_true rfl | decide) only [r2_0, r2_1, r2_3, r2_5, r2_8, r2_9, r2_12, r2_13, r2_14, r2_15, r2_16, r2_19, r2_20, r2_21, r2_22, r2_25, r2_29, r2_30, r2_31, r2_32, r2_35, r2_38, r2_41, r2_42, r2_43, r2_44, r2_45, r2_48, r2_51, r2_54, r2_55, r2_58, r2_61, r2_62, r2_63, r2_66, r2_67, r2_70, r2_71, r2_72, r2_73, r2_74, r2_75, r2_76, r2_79, r2_82, r2_83, r2_84, r2_85, r2_88, r2_89, r2_90, r2_91, r2_94, r2_97, r2_100, r2_103, am_gf_34_1, am_gf_34_2, am_gf_34_5, am_gf_4_0, am_gf_4_2, am_ai_6, am_ai_35, am_ai_36, am_nl_i, am_nl_r, am_nl_n, am_nl_l, Option.bind_some, Option.toList_some, Option.toList_none, List.cons_append, List.nil_append, if_true, if_false, Bool.false_eq_true, Int.reduceEq, Int.reduceAdd, ↓reduceIte, show (12 : Int32) = nI 12 from rfl, i_rf]
  | succ k ih =>
    intro i v2 σ hi hC
    have hc : ¬ 12 ≤ i := by omega
    have hi12 : i < 12 := by omega
    obtain ⟨σ', g1, g2, g3⟩ := ih (i + 1) v2 (am_up (am_up σ 35 i (-1)) 36 i 0) (by omega) (fun j hj => by
      rw [am_up_ne (by decide), am_up_eq, am_up_eq, am_up_ne (by decide)]
      by_cases h : j = i
      · subst h; rw [pk_us, pk_us]; exact ⟨rfl, rfl⟩
      · rw [pk_un h, pk_un h]; exact hC j (by omega))
    refine ⟨σ', ?_, fun a x y => by rw [g2 a x y, am_up_ne y, am_up_ne x], g3⟩
    rw [← g1, r2_2]
    simp (disch := first | assumption | omega | rfl | exact Nat.le_of_ble_eq_true rfl | decide) only [r2_0, r2_1, r2_3, r2_5, r2_8, r2_9, r2_12, r2_13, r2_14, r2_15, r2_16, r2_19, r2_20, r2_21, r2_22, r2_25, r2_29, r2_30, r2_31, r2_32, r2_35, r2_38, r2_41, r2_42, r2_43, r2_44, r2_45, r2_48, r2_51, r2_54, r2_55, r2_58, r2_61, r2_62, r2_63, r2_66, r2_67, r2_70, r2_71, r2_72, r2_73, r2_74, r2_75, r2_76, r2_79, r2_82, r2_83, r2_84, r2_85, r2_88, r2_89, r2_90, r2_91, r2_94, r2_97, r2_100, r2_103, am_gf_34_1, am_gf_34_2, am_gf_34_5, am_gf_4_0, am_gf_4_2, am_ai_6, am_ai_35, am_ai_36, am_nl_i, am_nl_r, am_nl_n, am_nl_l, Option.bind_some, Option.toList_some, Option.toList_none, List.cons_append, List.nil_append, if_true, if_false, Bool.false_eq_true, Int.reduceEq, Int.reduceAdd, ↓reduceIte, show (12 : Int32) = nI 12 from rfl, ni_le, hc, nI_1]
/-- who may wed a man -/
def adB (n : Nat) (sx al nm : Nat → Int32) (dst : Nat → Nat → Int32) (a b : Nat) : Bool := decide (b < n) && (decide (sx a = 0) && mayB sx al nm dst a b)
theorem c_findWomen_in {d n m : Nat} {τ : Int64} {sx al nm : Nat → Int32} {u : Nat → Int32} (h12 : n ≤ 12) (hm : m < n) (hs0 : sx m = 0) : ∀ k i (σ : am_St), i + k = n → σ 4 0 = nI n → σ 6 = sx → σ 13 = al → σ 16 = nm → σ 14 = u → (∀ j, j < 32 → bt (σ 36 m) j = (decide (j < i) && mayB sx al nm (dsS u n) m j)) →
    ∃ σ' : am_St, am_run (d + 3) 2 43 [.ref 34, .int (nI m), .int (nI i)] [] σ τ = am_run (d + 3) 2 97 [.ref 34, .int (nI m), .int (nI n)] [] σ' τ ∧ (∀ a, a ≠ 36 → σ' a = σ a) ∧ (∀ j, j ≠ m → σ' 36 j = σ 36 j) ∧ ∀ j, j < 32 → bt (σ' 36 m) j = (decide (j < n) && mayB sx al nm (dsS u n) m j) := by
  intro k
  induction k with
  | zero =>
    intro i σ hi hn e6 e13 e16 e14 hB
    have e : i = n := by omega
    subst e
    refine ⟨σ, ?_, fun _ _ => rfl, fun _ _ => rfl, hB⟩
    rw [r2_43]
    simp (disch := first | assumption | omega | rfl | exact Nat.le_of_ble_eq_true rfl | decide) only [r2_0, r2_1, r2_2, r2_3, r2_5, r2_8, r2_9, r2_12, r2_13, r2_14, r2_15, r2_16, r2_19, r2_20, r2_21, r2_22, r2_25, r2_28, r2_29, r2_30, r2_31, r2_32, r2_35, r2_38, r2_41, r2_42, r2_44, r2_45, r2_48, r2_51, r2_54, r2_55, r2_58, r2_61, r2_62, r2_63, r2_66, r2_67, r2_70, r2_71, r2_72, r2_73, r2_74, r2_75, r2_76, r2_79, r2_82, r2_83, r2_84, r2_85, r2_88, r2_89, r2_90, r2_91, r2_94, r2_100, r2_103, am_gf_34_1, am_gf_34_2, am_gf_34_5, am_gf_4_0, am_gf_4_2, am_ai_6, am_ai_35, am_ai_36, am_nl_i, am_nl_r, am_nl_n, am_nl_l, Option.bind_some, Option.toList_some, Option.toList_none, List.cons_append, List.nil_append, if_true, if_false, Bool.false_eq_true, Int.reduceEq, Int.reduceAdd, ↓reduceIte, hn, i_rf]
  | succ k ih =>
    intro i σ hi hn e6 e13 e16 e14 hB
    have hc : ¬ n ≤ i := by omega
    have hi12 : i < 12 := by omega
    have hm12 : m < 12 := by omega
    have hs : σ 6 m = 0 := by rw [e6]; exact hs0
    have hal : am_call (d + 2) 0 [.ref 34, .int (nI m), .int (nI i)] σ τ = some (some (.int (if mayB sx al nm (dsS u n) m i = true then 1 else 0)), σ, τ) := by
      rw [c_allowed hn h12 hm12 hi12, e6, e13, e16, e14]
    have e10 : ¬ (1 : Int32) = 0 := by decide
    have step : ∀ x : Int32, (∀ j, j < 32 → bt x j = (bt (σ 36 m) j || (decide (j = i) && mayB sx al nm (dsS u n) m i))) → ∃ σ' : am_St, am_run (d + 3) 2 43 [.ref 34, .int (nI m), .int (nI (i + 1))] [] (am_up σ 36 m x) τ = am_run (d + 3) 2 97 [.ref 34, .int (nI m), .int (nI n)] [] σ' τ ∧ (∀ a, a ≠ 36 → σ' a = σ a) ∧ (∀ j, j ≠ m → σ' 36 j = σ 36 j) ∧ ∀ j, j < 32 → bt (σ' 36 m) j = (decide (j < n) && mayB sx al nm (dsS u n) m j) := by
      intro x hx
      obtain ⟨σ', g1, g2, g3, g4⟩ := ih (i + 1) (am_up σ 36 m x) (by omega) (by rw [am_up_ne (by decide)]; exact hn) (by rw [am_up_ne (by decide)]; exact e6) (by rw [am_up_ne (by decide)]; exact e13) (by rw [am_up_ne (by decide)]; exact e16) (by rw [am_up_ne (by decide)]; exact e14) (fun j hj => by
        rw [am_up_eq, pk_us, hx j hj, hB j hj]
        by_cases h : j = i
        · subst h; simp
        · by_cases h2 : j < i
          · have : j < i + 1 := by omega
            simp [h, h2, this]
          · have : ¬ j < i + 1 := by omega
            simp [h, h2, this])
      exact ⟨σ', g1, fun a x => by rw [g2 a x, am_up_ne x], fun j hj => by rw [g3 j hj, am_up_eq, pk_un hj], g4⟩
    cases hmb : mayB sx al nm (dsS u n) m i with
    | true =>
      rw [hmb] at hal
      obtain ⟨σ', g1, g2⟩ := step (σ 36 m ||| ((1 : Int32) <<< (nI i &&& 31))) (fun j hj => by rw [bt_or1 (by omega) hj, hmb, Bool.and_true])
      refine ⟨σ', ?_, g2⟩
      rw [← g1, r2_43]
      simp (disch := first | assumption | omega | rfl | exact Nat.le_of_ble_eq_true rfl | decide) only [r2_0, r2_1, r2_2, r2_3, r2_5, r2_8, r2_9, r2_12, r2_13, r2_14, r2_15, r2_16, r2_19, r2_20, r2_21, r2_22, r2_25, r2_28, r2_29, r2_30, r2_31, r2_32, r2_35, r2_38, r2_41, r2_42, r2_44, r2_45, r2_48, r2_51, r2_54, r2_55, r2_58, r2_61, r2_62, r2_63, r2_66, r2_67, r2_70, r2_71, r2_72, r2_73, r2_74, r2_75, r2_76, r2_79, r2_82, r2_83, r2_84, r2_85, r2_88, r2_89, r2_90, r2_91, r2_94, r2_100, r2_103, am_gf_34_1, am_gf_34_2, am_gf_34_5, am_gf_4_0, am_gf_4_2, am_ai_6, am_ai_35, am_ai_36, am_nl_i, am_nl_r, am_nl_n, am_nl_l, Option.bind_some, Option.toList_some, Option.toList_none, List.cons_append, List.nil_append, if_true, if_false, Bool.false_eq_true, Int.reduceEq, Int.reduceAdd, ↓reduceIte, hn, ni_le, hc, hs, hal, e10, nI_1]
    | false =>
      rw [hmb] at hal
      obtain ⟨σ', g1, g2⟩ := step (σ 36 m ||| 0) (fun j hj => by rw [i_or0, hmb, Bool.and_false, Bool.or_false])
      refine ⟨σ', ?_, g2⟩
      rw [← g1, r2_43]
      simp (disch := first | assumption | omega | rfl | exact Nat.le_of_ble_eq_true rfl | decide) only [r2_0, r2_1, r2_2, r2_3, r2_5, r2_8, r2_9, r2_12, r2_13, r2_14, r2_15, r2_16, r2_19, r2_20, r2_21, r2_22, r2_25, r2_28, r2_29, r2_30, r2_31, r2_32, r2_35, r2_38, r2_41, r2_42, r2_44, r2_45, r2_48, r2_51, r2_54, r2_55, r2_58, r2_61, r2_62, r2_63, r2_66, r2_67, r2_70, r2_71, r2_72, r2_73, r2_74, r2_75, r2_76, r2_79, r2_82, r2_83, r2_84, r2_85, r2_88, r2_89, r2_90, r2_91, r2_94, r2_100, r2_103, am_gf_34_1, am_gf_34_2, am_gf_34_5, am_gf_4_0, am_gf_4_2, am_ai_6, am_ai_35, am_ai_36, am_nl_i, am_nl_r, am_nl_n, am_nl_l, Option.bind_some, Option.toList_some, Option.toList_none, List.cons_append, List.nil_append, if_true, if_false, Bool.false_eq_true, Int.reduceEq, Int.reduceAdd, ↓reduceIte, hn, ni_le, hc, hs, hal, nI_1]
/-- where it is no man: nothing is done -/
theorem c_findWomen_no {d n m : Nat} {τ : Int64} {σ : am_St} (h12 : n ≤ 12) (hm : m < n) (hs : ¬ σ 6 m = 0) (hn : σ 4 0 = nI n) : am_run (d + 3) 2 43 [.ref 34, .int (nI m), .int (nI 0)] [] σ τ = am_run (d + 3) 2 97 [.ref 34, .int (nI m), .int (nI 0)] [] σ τ := by
  have hc : ¬ n ≤ 0 := by omega
  have hm12 : m < 12 := by omega
  rw [r2_43]
  simp (disch := first | assumption | omega | rfl | exact Nat.le_of_ble_eq_true rfl | decide) only [r2_0, r2_1, r2_2, r2_3, r2_5, r2_8, r2_9, r2_12, r2_13, r2_14, r2_15, r2_16, r2_19, r2_20, r2_21, r2_22, r2_25, r2_28, r2_29, r2_30, r2_31, r2_32, r2_35, r2_38, r2_41, r2_42, r2_44, r2_45, r2_48, r2_51, r2_54, r2_55, r2_58, r2_61, r2_62, r2_63, r2_66, r2_67, r2_70, r2_71, r2_72, r2_73, r2_74, r2_75, r2_76, r2_79, r2_82, r2_83, r2_84, r2_85, r2_88, r2_89, r2_90, r2_91, r2_94, r2_100, r2_103, am_gf_34_1, am_gf_34_2, am_gf_34_5, am_gf_4_0, am_gf_4_2, am_ai_6, am_ai_35, am_ai_36, am_nl_i, am_nl_r, am_nl_n, am_nl_l, Option.bind_some, Option.toList_some, Option.toList_none, List.cons_append, List.nil_append, if_true, if_false, Bool.false_eq_true, Int.reduceEq, Int.reduceAdd, ↓reduceIte, hn, ni_le, hc, hs]
theorem c_findWomen_out {d n : Nat} {τ : Int64} {sx al nm : Nat → Int32} {u : Nat → Int32} (h12 : n ≤ 12) : ∀ k m (v2 : Value) (σ : am_St), m + k = n → σ 4 0 = nI n → σ 6 = sx → σ 13 = al → σ 16 = nm → σ 14 = u → (∀ a, a < n → ∀ j, j < 32 → bt (σ 36 a) j = (decide (a < m) && adB n sx al nm (dsS u n) a j)) →
    ∃ σ' : am_St, am_run (d + 3) 2 30 [.ref 34, .int (nI m), v2] [] σ τ = some (none, σ', τ) ∧ (∀ a, a ≠ 36 → σ' a = σ a) ∧ ∀ a, a < n → ∀ j, j < 32 → bt (σ' 36 a) j = adB n sx al nm (dsS u n) a j := by
  intro k
  induction k with
  | zero =>
    intro m v2 σ hm hn e6 e13 e16 e14 hB
    have e : m = n := by omega
    subst e
    refine ⟨σ, ?_, fun _ _ => rfl, fun a ha j hj => by rw [hB a ha j hj, decide_eq_true ha, Bool.true_and]⟩
    rw [r2_30]
    simp (disch := first | assumption | omega | rfl | exact Nat.le_of_ble_eq_true rfl | decide) only [r2_0, r2_1, r2_2, r2_3, r2_5, r2_8, r2_9, r2_12, r2_13, r2_14, r2_15, r2_16, r2_19, r2_20, r2_21, r2_22, r2_25, r2_28, r2_29, r2_31, r2_32, r2_35, r2_38, r2_41, r2_42, r2_44, r2_45, r2_48, r2_51, r2_54, r2_55, r2_58, r2_61, r2_62, r2_63, r2_66, r2_67, r2_70, r2_71, r2_72, r2_73, r2_74, r2_75, r2_76, r2_79, r2_82, r2_83, r2_84, r2_85, r2_88, r2_89, r2_90, r2_91, r2_94, r2_97, r2_100, r2_103, am_gf_34_1, am_gf_34_2, am_gf_34_5, am_gf_4_0, am_gf_4_2, am_ai_6, am_ai_35, am_ai_36, am_nl_i, am_nl_r, am_nl_n, am_nl_l, Option.bind_some, Option.toList_some, Option.toList_none, List.cons_append, List.nil_append, if_true, if_false, Bool.false_eq_true, Int.reduceEq, Int.reduceAdd, ↓reduceIte, hn, i_rf]
  | succ k ih =>
    intro m v2 σ hm hn e6 e13 e16 e14 hB
    have hc : ¬ n ≤ m := by omega
    have goes : am_run (d + 3) 2 30 [.ref 34, .int (nI m), v2] [] σ τ = am_run (d + 3) 2 43 [.ref 34, .int (nI m), .int (nI 0)] [] σ τ := by
      rw [r2_30]
      simp (disch := first | assumption | omega | rfl | exact Nat.le_of_ble_eq_true rfl | decide) only [r2_0, r2_1, r2_2, r2_3, r2_5, r2_8, r2_9, r2_12, r2_13, r2_14, r2_15, r2_16, r2_19, r2_20, r2_21, r2_22, r2_25, r2_28, r2_29, r2_31, r2_32, r2_35, r2_38, r2_41, r2_42, r2_44, r2_45, r2_48, r2_51, r2_54, r2_55, r2_58, r2_61, r2_62, r2_63, r2_66, r2_67, r2_70, r2_71, r2_72, r2_73, r2_74, r2_75, r2_76, r2_79, r2_82, r2_83, r2_84, r2_85, r2_88, r2_89, r2_90, r2_91, r2_94, r2_97, r2_100, r2_103, am_gf_34_1, am_gf_34_2, am_gf_34_5, am_gf_4_0, am_gf_4_2, am_ai_6, am_ai_35, am_ai_36, am_nl_i, am_nl_r, am_nl_n, am_nl_l, Option.bind_some, Option.toList_some, Option.toList_none, List.cons_append, List.nil_append, if_true, if_false, Bool.false_eq_true, Int.reduceEq, Int.reduceAdd, ↓reduceIte, hn, ni_le, hc]
      rfl
    by_cases hs : sx m = 0
    · obtain ⟨σ1, a1, a2, a3, a4⟩ := c_findWomen_in (d := d) (τ := τ) (sx := sx) (al := al) (nm := nm) (u := u) h12 (show m < n by omega) hs n 0 σ (by omega) hn e6 e13 e16 e14 (fun j hj => by rw [hB m (by omega) j hj]; simp)
      obtain ⟨σ', g1, g2, g3⟩ := ih (m + 1) (.int (nI n)) σ1 (by omega) (by rw [a2 4 (by decide)]; exact hn) (by rw [a2 6 (by decide)]; exact e6) (by rw [a2 13 (by decide)]; exact e13) (by rw [a2 16 (by decide)]; exact e16) (by rw [a2 14 (by decide)]; exact e14) (fun a ha j hj => by
        by_cases h : a = m
        · subst h
          have : a < a + 1 := by omega
          rw [a4 j hj]
          unfold adB
          simp [this, hs]
        · rw [a3 a h, hB a ha j hj]
          by_cases h2 : a < m
          · have : a < m + 1 := by omega
            simp [h2, this]
          · have : ¬ a < m + 1 := by omega
            simp [h2, this])
      refine ⟨σ', ?_, fun a x => by rw [g2 a x, a2 a x], g3⟩
      rw [goes, a1, ← g1, r2_97]
      simp (disch := first | assumption | omega | rfl | exact Nat.le_of_ble_eq_true rfl | decide) only [r2_0, r2_1, r2_2, r2_3, r2_5, r2_8, r2_9, r2_12, r2_13, r2_14, r2_15, r2_16, r2_19, r2_20, r2_21, r2_22, r2_25, r2_28, r2_29, r2_31, r2_32, r2_35, r2_38, r2_41, r2_42, r2_44, r2_45, r2_48, r2_51, r2_54, r2_55, r2_58, r2_61, r2_62, r2_63, r2_66, r2_67, r2_70, r2_71, r2_72, r2_73, r2_74, r2_75, r2_76, r2_79, r2_82, r2_83, r2_84, r2_85, r2_88, r2_89, r2_90, r2_91, r2_94, r2_97, r2_100, r2_103, am_gf_34_1, am_gf_34_2, am_gf_34_5, am_gf_4_0, am_gf_4_2, am_ai_6, am_ai_35, am_ai_36, am_nl_i, am_nl_r, am_nl_n, am_nl_l, Option.bind_some, Option.toList_some, Option.toList_none, List.cons_append, List.nil_append, if_true, if_false, Bool.false_eq_true, Int.reduceEq, Int.reduceAdd, ↓reduceIte, nI_1]
    · obtain ⟨σ', g1, g2, g3⟩ := ih (m + 1) (.int (nI 0)) σ (by omega) hn e6 e13 e16 e14 (fun a ha j hj => by
        rw [hB a ha j hj]
        by_cases h : a = m
        · subst h
          have h1 : ¬ a < a := by omega
          unfold adB
          simp [h1, hs]
        · by_cases h2 : a < m
          · have : a < m + 1 := by omega
            simp [h2, this]
          · have : ¬ a < m + 1 := by omega
            simp [h2, this])
      refine ⟨σ', ?_, g2, g3⟩
      rw [goes, c_findWomen_no h12 (show m < n by omega) (by rw [e6]; exact hs) hn, ← g1, r2_97]
      simp (disch := first | assumption | omega | rfl | exact Nat.le_of_ble_eq_true rfl | decide) only [r2_0, r2_1, r2_2, r2_3, r2_5, r2_8, r2_9, r2_12, r2_13, r2_14, r2_15, r2_16, r2_19, r2_20, r2_21, r2_22, r2_25, r2_28, r2_29, r2_31, r2_32, r2_35, r2_38, r2_41, r2_42, r2_44, r2_45, r2_48, r2_51, r2_54, r2_55, r2_58, r2_61, r2_62, r2_63, r2_66, r2_67, r2_70, r2_71, r2_72, r2_73, r2_74, r2_75, r2_76, r2_79, r2_82, r2_83, r2_84, r2_85, r2_88, r2_89, r2_90, r2_91, r2_94, r2_97, r2_100, r2_103, am_gf_34_1, am_gf_34_2, am_gf_34_5, am_gf_4_0, am_gf_4_2, am_ai_6, am_ai_35, am_ai_36, am_nl_i, am_nl_r, am_nl_n, am_nl_l, Option.bind_some, Option.toList_some, Option.toList_none, List.cons_append, List.nil_append, if_true, if_false, Bool.false_eq_true, Int.reduceEq, Int.reduceAdd, ↓reduceIte, nI_1]
theorem c_findWomen {d n : Nat} {σ : am_St} {τ : Int64} (h12 : n ≤ 12) (hn : σ 4 0 = nI n) : ∃ σ' : am_St, am_call (d + 3) 2 [.ref 34] σ τ = some (none, σ', τ) ∧ (∀ a, a ≠ 35 → a ≠ 36 → σ' a = σ a) ∧ (∀ j, j < 12 → σ' 35 j = -1) ∧ ∀ a, a < n → ∀ j, j < 32 → bt (σ' 36 a) j = adB n (σ 6) (σ 13) (σ 16) (dsS (σ 14) n) a j := by
  obtain ⟨σ1, a1, a2, a3⟩ := c_findWomen_0 (d := d + 3) (τ := τ) 12 0 .null σ rfl (fun j hj => by omega)
  obtain ⟨σ', g1, g2, g3⟩ := c_findWomen_out (d := d) (τ := τ) (sx := σ 6) (al := σ 13) (nm := σ 16) (u := σ 14) h12 n 0 .null σ1 (by omega) (by rw [a2 4 (by decide) (by decide)]; exact hn) (a2 6 (by decide) (by decide)) (a2 13 (by decide) (by decide)) (a2 16 (by decide) (by decide)) (a2 14 (by decide) (by decide)) (fun a ha j hj => by rw [(a3 a (by omega)).2, b_0]; simp)
  refine ⟨σ', ?_, fun a x y => by rw [g2 a y, a2 a x y], fun j hj => by rw [g2 35 (by decide)]; exact (a3 j hj).1, g3⟩
  show am_run (d + 3) 2 0 [.ref 34, .null, .null] [] σ τ = _
  simp (disch := first | assumption | omega | rfl | exact Nat.le_of_ble_eq_true rfl | decide) only [r2_0, r2_1, r2_3, r2_5, r2_8, r2_9, r2_12, r2_13, r2_14, r2_15, r2_16, r2_19, r2_20, r2_21, r2_22, r2_25, r2_29, r2_31, r2_32, r2_35, r2_38, r2_41, r2_42, r2_43, r2_44, r2_45, r2_48, r2_51, r2_54, r2_55, r2_58, r2_61, r2_62, r2_63, r2_66, r2_67, r2_70, r2_71, r2_72, r2_73, r2_74, r2_75, r2_76, r2_79, r2_82, r2_83, r2_84, r2_85, r2_88, r2_89, r2_90, r2_91, r2_94, r2_97, r2_100, r2_103, am_gf_34_1, am_gf_34_2, am_gf_34_5, am_gf_4_0, am_gf_4_2, am_ai_6, am_ai_35, am_ai_36, am_nl_i, am_nl_r, am_nl_n, am_nl_l, Option.bind_some, Option.toList_some, Option.toList_none, List.cons_append, List.nil_append, if_true, if_false, Bool.false_eq_true, Int.reduceEq, Int.reduceAdd, ↓reduceIte]
  refine Eq.trans a1 ?_
  rw [← g1, r2_28]
  simp (disch := first | assumption | omega | rfl | exact Nat.le_of_ble_eq_true rfl | decide) only [r2_0, r2_1, r2_2, r2_3, r2_5, r2_8, r2_9, r2_12, r2_13, r2_14, r2_15, r2_16, r2_19, r2_20, r2_21, r2_22, r2_25, r2_28, r2_29, r2_31, r2_32, r2_35, r2_38, r2_41, r2_42, r2_43, r2_44, r2_45, r2_48, r2_51, r2_54, r2_55, r2_58, r2_61, r2_62, r2_63, r2_66, r2_67, r2_70, r2_71, r2_72, r2_73, r2_74, r2_75, r2_76, r2_79, r2_82, r2_83, r2_84, r2_85, r2_88, r2_89, r2_90, r2_91, r2_94, r2_97, r2_100, r2_103, am_gf_34_1, am_gf_34_2, am_gf_34_5, am_gf_4_0, am_gf_4_2, am_ai_6, am_ai_35, am_ai_36, am_nl_i, am_nl_r, am_nl_n, am_nl_l, Option.bind_some, Option.toList_some, Option.toList_none, List.cons_append, List.nil_append, if_true, if_false, Bool.false_eq_true, Int.reduceEq, Int.reduceAdd, ↓reduceIte]
  rfl
