/-! OtherName: write, dies, call, wrong, mended, ways, sure, laws, may, couples, image, restore, count -/
def x_tl (T : tS) (v : Nat → Int32) : tS := ((T.1.1, T.1.2.1, T.1.2.2.1, T.1.2.2.2.1, T.1.2.2.2.2.1, T.1.2.2.2.2.2.1, v, T.1.2.2.2.2.2.2.2.1, T.1.2.2.2.2.2.2.2.2), T.2)
def x_wr (T : tS) (v : Nat → Int32) : tS := ((T.1.1, T.1.2.1, T.1.2.2.1, T.1.2.2.2.1, T.1.2.2.2.2.1, T.1.2.2.2.2.2.1, T.1.2.2.2.2.2.2.1, v, T.1.2.2.2.2.2.2.2.2), T.2)
def x_lv (T : tS) (v : Nat → Int32) : tS := ((T.1.1, T.1.2.1, T.1.2.2.1, T.1.2.2.2.1, T.1.2.2.2.2.1, T.1.2.2.2.2.2.1, T.1.2.2.2.2.2.2.1, T.1.2.2.2.2.2.2.2.1, v), T.2)
def x_md (T : tS) (v : Nat) : tS := (T.1, T.2.1, T.2.2.1, T.2.2.2.1, v, T.2.2.2.2.2)
def x_im (T : tS) (v : Option iS) : tS := (T.1, T.2.1, T.2.2.1, T.2.2.2.1, T.2.2.2.2.1, v)
def sp_write (T : tS) (p v : Int32) : Int32 × tS := match idx (s_n T) p with
  | none => (-101, T)
  | some j => if ¬ v = -1 ∧ nmB v = 0 then (-102, T) else (s_wr T j, x_wr T (upd (s_wr T) j v))
theorem c_write {d : Nat} {σ : am_St} {τ : Int64} {T : tS} {p v : Int32} (hR : RC σ T) (hW : WF T) : ∃ σ' : am_St, am_call (d + 1) 60 [.ref 0, .int p, .int v] σ τ = some (some (.int (sp_write T p v).1), σ', τ) ∧ RC σ' (sp_write T p v).2 ∧ ∀ c, 42 ≤ c → σ' c = σ c := by
  unfold sp_write
  have hn := hR.1
  have h12 := hW.1
  cases hp : idx (s_n T) p with
  | none =>
    refine ⟨σ, ?_, hR, fun _ _ => rfl⟩
    show am_run (d + 1) 60 0 [.ref 0, .int p, .int v, .null] [] σ τ = _
    simp (disch := first | assumption | omega | rfl | exact Nat.le_of_ble_eq_true rfl | decide) only [r60_0, r60_1, r60_4, r60_5, r60_8, r60_11, r60_13, r60_14, r60_15, r60_16, r60_19, r60_20, r60_23, r60_26, r60_28, r60_29, r60_30, r60_33, r60_36, r60_37, r60_38, r60_39, r60_40, r60_43, r60_46, r60_47, r60_48, r60_49, r60_50, am_gf_4_8, am_gf_0_2, am_ai_12, am_nl_i, am_nl_r, am_nl_n, am_nl_l, Option.bind_some, Option.toList_some, Option.toList_none, List.cons_append, List.nil_append, if_true, if_false, Bool.false_eq_true, Int.reduceEq, Int.reduceAdd, ↓reduceIte, c_has_n hn hp]
  | some j =>
    obtain ⟨hj, rfl⟩ := idx_some h12 hp
    have hj12 : j < 12 := by omega
    dsimp only
    by_cases hv : ¬ v = -1 ∧ nmB v = 0
    · rw [if_pos hv]
      refine ⟨σ, ?_, hR, fun _ _ => rfl⟩
      show am_run (d + 1) 60 0 [.ref 0, .int (nI j), .int v, .null] [] σ τ = _
      simp (disch := first | assumption | omega | rfl | exact Nat.le_of_ble_eq_true rfl | decide) only [r60_0, r60_1, r60_4, r60_5, r60_8, r60_11, r60_13, r60_14, r60_15, r60_16, r60_19, r60_20, r60_23, r60_26, r60_28, r60_29, r60_30, r60_33, r60_36, r60_37, r60_38, r60_39, r60_40, r60_43, r60_46, r60_47, r60_48, r60_49, r60_50, am_gf_4_8, am_gf_0_2, am_ai_12, am_nl_i, am_nl_r, am_nl_n, am_nl_l, Option.bind_some, Option.toList_some, Option.toList_none, List.cons_append, List.nil_append, if_true, if_false, Bool.false_eq_true, Int.reduceEq, Int.reduceAdd, ↓reduceIte, c_has_s hn hp, e10, hv.1, c_isName, hv.2]
    · rw [if_neg hv]
      obtain ⟨-, -, -, -, -, -, -, q12, -⟩ := hR.2.1 j hj
      refine ⟨am_up σ 12 j v, ?_, ?_, fun c hc => am_up_ne (by omega)⟩
      · show am_run (d + 1) 60 0 [.ref 0, .int (nI j), .int v, .null] [] σ τ = _
        by_cases h1 : v = -1
        · simp (disch := first | assumption | omega | rfl | exact Nat.le_of_ble_eq_true rfl | decide) only [r60_0, r60_1, r60_4, r60_5, r60_8, r60_11, r60_13, r60_14, r60_15, r60_16, r60_19, r60_20, r60_23, r60_26, r60_28, r60_29, r60_30, r60_33, r60_36, r60_37, r60_38, r60_39, r60_40, r60_43, r60_46, r60_47, r60_48, r60_49, r60_50, am_gf_4_8, am_gf_0_2, am_ai_12, am_nl_i, am_nl_r, am_nl_n, am_nl_l, Option.bind_some, Option.toList_some, Option.toList_none, List.cons_append, List.nil_append, if_true, if_false, Bool.false_eq_true, Int.reduceEq, Int.reduceAdd, ↓reduceIte, c_has_s hn hp, e10, h1, q12]
        · have h2 : ¬ nmB v = 0 := fun q => hv ⟨h1, q⟩
          simp (disch := first | assumption | omega | rfl | exact Nat.le_of_ble_eq_true rfl | decide) only [r60_0, r60_1, r60_4, r60_5, r60_8, r60_11, r60_13, r60_14, r60_15, r60_16, r60_19, r60_20, r60_23, r60_26, r60_28, r60_29, r60_30, r60_33, r60_36, r60_37, r60_38, r60_39, r60_40, r60_43, r60_46, r60_47, r60_48, r60_49, r60_50, am_gf_4_8, am_gf_0_2, am_ai_12, am_nl_i, am_nl_r, am_nl_n, am_nl_l, Option.bind_some, Option.toList_some, Option.toList_none, List.cons_append, List.nil_append, if_true, if_false, Bool.false_eq_true, Int.reduceEq, Int.reduceAdd, ↓reduceIte, c_has_s hn hp, e10, h1, c_isName, h2, q12]
      · obtain ⟨r1, r2, r3⟩ := hR
        refine ⟨by rw [am_up_ne (by decide)]; exact r1, fun i hi => ?_, by simp (disch := decide) only [am_up_ne]; exact r3⟩
        obtain ⟨b1, b2, b3, b4, b5, b6, b7, b8, b9⟩ := r2 i hi
        simp (disch := decide) only [am_up_ne, am_up_eq]
        refine ⟨b1, b2, b3, b4, b5, b6, b7, ?_, b9⟩
        show upd (σ 12) j v i = upd (s_wr T) j v i
        unfold upd
        split
        · rfl
        · exact b8
def sp_dies (T : tS) (p : Int32) : Int32 × tS := match idx (s_n T) p with
  | none => (-101, T)
  | some j => if s_lv T j = 0 then (-103, T) else (nI (cnt (fun i => !decide (upd (s_lv T) j 0 i = 0)) (s_n T)), x_lv T (upd (s_lv T) j 0))
theorem c_dies {d : Nat} {σ : am_St} {τ : Int64} {T : tS} {p : Int32} (hR : RC σ T) (hW : WF T) : ∃ σ' : am_St, am_call (d + 1) 61 [.ref 0, .int p] σ τ = some (some (.int (sp_dies T p).1), σ', τ) ∧ RC σ' (sp_dies T p).2 ∧ ∀ c, 42 ≤ c → σ' c = σ c := by
  unfold sp_dies
  have hn := hR.1
  have h12 := hW.1
  cases hp : idx (s_n T) p with
  | none =>
    refine ⟨σ, ?_, hR, fun _ _ => rfl⟩
    show am_run (d + 1) 61 0 [.ref 0, .int p] [] σ τ = _
    simp (disch := first | assumption | omega | rfl | exact Nat.le_of_ble_eq_true rfl | decide) only [r61_0, r61_1, r61_4, r61_5, r61_8, r61_11, r61_13, r61_14, r61_15, r61_18, r61_21, r61_22, r61_23, r61_26, r61_28, r61_29, r61_30, r61_33, r61_36, r61_37, r61_38, r61_39, r61_40, r61_43, r61_46, am_gf_4_9, am_gf_0_2, am_ai_13, am_nl_i, am_nl_r, am_nl_n, am_nl_l, Option.bind_some, Option.toList_some, Option.toList_none, List.cons_append, List.nil_append, if_true, if_false, Bool.false_eq_true, Int.reduceEq, Int.reduceAdd, ↓reduceIte, c_has_n hn hp]
  | some j =>
    obtain ⟨hj, rfl⟩ := idx_some h12 hp
    have hj12 : j < 12 := by omega
    dsimp only
    obtain ⟨-, -, -, -, -, -, -, -, q13, -⟩ := hR.2.1 j hj
    by_cases hv : s_lv T j = 0
    · rw [if_pos hv]
      rw [hv] at q13
      refine ⟨σ, ?_, hR, fun _ _ => rfl⟩
      show am_run (d + 1) 61 0 [.ref 0, .int (nI j)] [] σ τ = _
      simp (disch := first | assumption | omega | rfl | exact Nat.le_of_ble_eq_true rfl | decide) only [r61_0, r61_1, r61_4, r61_5, r61_8, r61_11, r61_13, r61_14, r61_15, r61_18, r61_21, r61_22, r61_23, r61_26, r61_28, r61_29, r61_30, r61_33, r61_36, r61_37, r61_38, r61_39, r61_40, r61_43, r61_46, am_gf_4_9, am_gf_0_2, am_ai_13, am_nl_i, am_nl_r, am_nl_n, am_nl_l, Option.bind_some, Option.toList_some, Option.toList_none, List.cons_append, List.nil_append, if_true, if_false, Bool.false_eq_true, Int.reduceEq, Int.reduceAdd, ↓reduceIte, c_has_s hn hp, e10, q13]
    · rw [if_neg hv]
      have hz : ¬ σ 13 j = 0 := by rw [q13]; exact hv
      have hn2 : am_up σ 13 j 0 4 0 = nI (s_n T) := by rw [am_up_ne (by decide)]; exact hn
      have hl : am_call d 12 [.ref 4] (am_up σ 13 j 0) τ = some (some (.int (nI (cnt (fun i => !decide (upd (s_lv T) j 0 i = 0)) (s_n T)))), am_up σ 13 j 0, τ) := by
        rw [c_living hn2 h12]
        rw [cnt_congr (Q := fun i => !decide (upd (s_lv T) j 0 i = 0)) (fun i hi => by
          rw [am_up_eq]
          unfold upd
          by_cases e : i = j
          · simp [e]
          · simp only [e, if_false]
            rw [(hR.2.1 i hi).2.2.2.2.2.2.2.2.1])]
      refine ⟨am_up σ 13 j 0, ?_, ?_, fun c hc => am_up_ne (by omega)⟩
      · show am_run (d + 1) 61 0 [.ref 0, .int (nI j)] [] σ τ = _
        simp (disch := first | assumption | omega | rfl | exact Nat.le_of_ble_eq_true rfl | decide) only [r61_0, r61_1, r61_4, r61_5, r61_8, r61_11, r61_13, r61_14, r61_15, r61_18, r61_21, r61_22, r61_23, r61_26, r61_28, r61_29, r61_30, r61_33, r61_36, r61_37, r61_38, r61_39, r61_40, r61_43, r61_46, am_gf_4_9, am_gf_0_2, am_ai_13, am_nl_i, am_nl_r, am_nl_n, am_nl_l, Option.bind_some, Option.toList_some, Option.toList_none, List.cons_append, List.nil_append, if_true, if_false, Bool.false_eq_true, Int.reduceEq, Int.reduceAdd, ↓reduceIte, c_has_s hn hp, e10, hz, vn_0, hl]
      · obtain ⟨r1, r2, r3⟩ := hR
        refine ⟨hn2, fun i hi => ?_, by simp (disch := decide) only [am_up_ne]; exact r3⟩
        obtain ⟨b1, b2, b3, b4, b5, b6, b7, b8, b9, b10⟩ := r2 i hi
        simp (disch := decide) only [am_up_ne, am_up_eq]
        refine ⟨b1, b2, b3, b4, b5, b6, b7, b8, ?_, b10⟩
        show upd (σ 13) j 0 i = upd (s_lv T) j 0 i
        unfold upd
        split
        · rfl
        · exact b9
def sp_call (T : tS) (p v : Int32) : Int32 × tS := match idx (s_n T) p with
  | none => (-101, T)
  | some j => if s_al T j = false then (-103, T) else if nmB v = 0 then (-102, T) else (s_tl T j, x_tl T (upd (s_tl T) j v))
theorem c_call {d : Nat} {σ : am_St} {τ : Int64} {T : tS} {p v : Int32} (hR : RC σ T) (hW : WF T) : ∃ σ' : am_St, am_call (d + 5) 59 [.ref 0, .int p, .int v] σ τ = some (some (.int (sp_call T p v).1), σ', τ) ∧ RC σ' (sp_call T p v).2 ∧ ∀ c, 42 ≤ c → σ' c = σ c := by
  unfold sp_call
  have hn := hR.1
  have h12 := hW.1
  cases hp : idx (s_n T) p with
  | none =>
    refine ⟨σ, ?_, hR, fun _ _ => rfl⟩
    show am_run (d + 5) 59 0 [.ref 0, .int p, .int v, .null] [] σ τ = _
    simp (disch := first | assumption | omega | rfl | exact Nat.le_of_ble_eq_true rfl | decide) only [r59_0, r59_1, r59_4, r59_5, r59_8, r59_11, r59_13, r59_14, r59_15, r59_18, r59_19, r59_22, r59_25, r59_27, r59_28, r59_29, r59_32, r59_35, r59_37, r59_38, r59_39, r59_42, r59_45, r59_46, r59_47, r59_48, r59_49, r59_52, r59_55, r59_56, r59_57, r59_58, r59_59, r59_62, r59_63, am_gf_4_7, am_gf_0_2, am_ai_11, am_nl_i, am_nl_r, am_nl_n, am_nl_l, Option.bind_some, Option.toList_some, Option.toList_none, List.cons_append, List.nil_append, if_true, if_false, Bool.false_eq_true, Int.reduceEq, Int.reduceAdd, ↓reduceIte, c_has_n hn hp]
  | some j =>
    obtain ⟨hj, rfl⟩ := idx_some h12 hp
    have hj12 : j < 12 := by omega
    dsimp only
    have hF := isF_al (hR.ph hW) h12 hj
    have hcf := c_isFounder (d := d + 4) (σ := σ) (τ := τ) hj12
    rw [hF] at hcf
    cases ha : s_al T j with
    | false =>
      rw [ha] at hcf
      refine ⟨σ, ?_, hR, fun _ _ => rfl⟩
      show am_run (d + 5) 59 0 [.ref 0, .int (nI j), .int v, .null] [] σ τ = _
      simp (disch := first | assumption | omega | rfl | exact Nat.le_of_ble_eq_true rfl | decide) only [r59_0, r59_1, r59_4, r59_5, r59_8, r59_11, r59_13, r59_14, r59_15, r59_18, r59_19, r59_22, r59_25, r59_27, r59_28, r59_29, r59_32, r59_35, r59_37, r59_38, r59_39, r59_42, r59_45, r59_46, r59_47, r59_48, r59_49, r59_52, r59_55, r59_56, r59_57, r59_58, r59_59, r59_62, r59_63, am_gf_4_7, am_gf_0_2, am_ai_11, am_nl_i, am_nl_r, am_nl_n, am_nl_l, Option.bind_some, Option.toList_some, Option.toList_none, List.cons_append, List.nil_append, if_true, if_false, Bool.false_eq_true, Int.reduceEq, Int.reduceAdd, ↓reduceIte, c_has_s hn hp, e10, hcf]
    | true =>
      rw [ha] at hcf
      rw [if_neg (by decide)]
      by_cases hv : nmB v = 0
      · rw [if_pos hv]
        refine ⟨σ, ?_, hR, fun _ _ => rfl⟩
        show am_run (d + 5) 59 0 [.ref 0, .int (nI j), .int v, .null] [] σ τ = _
        simp (disch := first | assumption | omega | rfl | exact Nat.le_of_ble_eq_true rfl | decide) only [r59_0, r59_1, r59_4, r59_5, r59_8, r59_11, r59_13, r59_14, r59_15, r59_18, r59_19, r59_22, r59_25, r59_27, r59_28, r59_29, r59_32, r59_35, r59_37, r59_38, r59_39, r59_42, r59_45, r59_46, r59_47, r59_48, r59_49, r59_52, r59_55, r59_56, r59_57, r59_58, r59_59, r59_62, r59_63, am_gf_4_7, am_gf_0_2, am_ai_11, am_nl_i, am_nl_r, am_nl_n, am_nl_l, Option.bind_some, Option.toList_some, Option.toList_none, List.cons_append, List.nil_append, if_true, if_false, Bool.false_eq_true, Int.reduceEq, Int.reduceAdd, ↓reduceIte, c_has_s hn hp, e10, hcf, c_isName, hv]
      · rw [if_neg hv]
        obtain ⟨-, -, -, -, -, -, q11, -⟩ := hR.2.1 j hj
        have hph := hR.ph hW
        obtain ⟨σ', g1, g2, g3⟩ := c_nameAll (d := d) (σ := am_up σ 11 j v) (τ := τ) (n := s_n T) (kd := s_kd T) (tl := upd (s_tl T) j v) (al := s_al T) (f := s_f T) (g := s_g T) (lw := s_lw T) h12 (by rw [am_up_ne (by decide)]; exact hn) (by rw [am_up_ne (by decide), am_up_ne (by decide)]; exact hph) (fun i hi => by
          rw [am_up_ne (by decide), am_up_eq]
          refine ⟨(hR.2.1 i hi).1, ?_⟩
          unfold upd
          split
          · rfl
          · exact (hR.2.1 i hi).2.2.2.2.2.2.1) (fun i hi => by rw [am_up_ne (by decide)]; exact hR.2.2.1 i hi)
        refine ⟨σ', ?_, ?_, fun c hc => by rw [g2 c (by omega) (by omega), am_up_ne (by omega)]⟩
        · show am_run (d + 5) 59 0 [.ref 0, .int (nI j), .int v, .null] [] σ τ = _
          simp (disch := first | assumption | omega | rfl | exact Nat.le_of_ble_eq_true rfl | decide) only [r59_0, r59_1, r59_4, r59_5, r59_8, r59_11, r59_13, r59_14, r59_15, r59_18, r59_19, r59_22, r59_25, r59_27, r59_28, r59_29, r59_32, r59_35, r59_37, r59_38, r59_39, r59_42, r59_45, r59_46, r59_47, r59_48, r59_49, r59_52, r59_55, r59_56, r59_57, r59_58, r59_59, r59_62, r59_63, am_gf_4_7, am_gf_0_2, am_ai_11, am_nl_i, am_nl_r, am_nl_n, am_nl_l, Option.bind_some, Option.toList_some, Option.toList_none, List.cons_append, List.nil_append, if_true, if_false, Bool.false_eq_true, Int.reduceEq, Int.reduceAdd, ↓reduceIte, c_has_s hn hp, e10, hcf, c_isName, hv, q11, g1]
        · obtain ⟨r1, r2, r3⟩ := hR
          have k : ∀ c, c ≠ 11 → c ≠ 16 → c ≠ 17 → σ' c = σ c := fun c x y z => by rw [g2 c y z, am_up_ne x]
          have k11 : σ' 11 = upd (σ 11) j v := by rw [g2 11 (by decide) (by decide), am_up_eq]
          refine ⟨by rw [k 4 (by decide) (by decide) (by decide)]; exact r1, fun i hi => ?_, ?_⟩
          · obtain ⟨b1, b2, b3, b4, b5, b6, b7, b8, b9, b10, b11⟩ := r2 i hi
            rw [k 5 (by decide) (by decide) (by decide), k 6 (by decide) (by decide) (by decide), k 7 (by decide) (by decide) (by decide), k 8 (by decide) (by decide) (by decide), k 9 (by decide) (by decide) (by decide), k 10 (by decide) (by decide) (by decide), k 12 (by decide) (by decide) (by decide), k 13 (by decide) (by decide) (by decide), k 14 (by decide) (by decide) (by decide), k11]
            refine ⟨b1, b2, b3, b4, b5, b6, ?_, b8, b9, g3 i hi, b11⟩
            show upd (σ 11) j v i = upd (s_tl T) j v i
            unfold upd
            split
            · rfl
            · exact b7
          · rw [k 3 (by decide) (by decide) (by decide), k 1 (by decide) (by decide) (by decide), k 2 (by decide) (by decide) (by decide), k 0 (by decide) (by decide) (by decide), k 38 (by decide) (by decide) (by decide), k 39 (by decide) (by decide) (by decide), k 40 (by decide) (by decide) (by decide), k 41 (by decide) (by decide) (by decide)]
            exact r3
/-- how many are wrong, the first one -/
def s_er (T : tS) : Nat := cnt (wrB (s_nm T) (s_wr T)) (s_n T)
def s_fe (T : tS) : Int32 := ff (wrB (s_nm T) (s_wr T)) (s_n T) 0
def sp_wrong (T : tS) (x : Int32) : Int32 := if x = 0 then nI (s_er T) else if x = 1 then s_fe T else -102
theorem c_er {d : Nat} {σ : am_St} {τ : Int64} {T : tS} (hR : RC σ T) (hW : WF T) : am_call (d + 1) 42 [.ref 15] σ τ = some (some (.int (nI (s_er T))), σ, τ) := by
  rw [c_errors NO_15 hR.1 hW.1]
  unfold s_er
  rw [cnt_congr (Q := wrB (s_nm T) (s_wr T)) (fun i hi => by unfold wrB; rw [(hR.2.1 i hi).2.2.2.2.2.2.2.2.2.1, (hR.2.1 i hi).2.2.2.2.2.2.2.1])]
theorem c_fe {d : Nat} {σ : am_St} {τ : Int64} {T : tS} (hR : RC σ T) (hW : WF T) : am_call (d + 1) 43 [.ref 15] σ τ = some (some (.int (s_fe T)), σ, τ) := by
  rw [c_firstError NO_15 hR.1 hW.1]
  unfold s_fe
  rw [ff_congr (Q := wrB (s_nm T) (s_wr T)) (s_n T) 0 (fun i _ hi => by unfold wrB; rw [(hR.2.1 i (by omega)).2.2.2.2.2.2.2.2.2.1, (hR.2.1 i (by omega)).2.2.2.2.2.2.2.1])]
theorem c_wrong {d : Nat} {σ : am_St} {τ : Int64} {T : tS} {x : Int32} (hR : RC σ T) (hW : WF T) : am_call (d + 2) 62 [.ref 0, .int x] σ τ = some (some (.int (sp_wrong T x)), σ, τ) := by
  show am_run (d + 2) 62 0 [.ref 0, .int x] [] σ τ = _
  unfold sp_wrong
  by_cases h0 : x = 0
  · subst h0
    have t0 : (0 : Int32).toInt = 0 := by decide
    simp (disch := first | assumption | omega | rfl | exact Nat.le_of_ble_eq_true rfl | decide) only [r62_0, r62_1, r62_28, r62_29, r62_32, r62_35, r62_36, r62_37, r62_40, r62_43, r62_44, r62_46, am_gf_0_3, am_nl_i, am_nl_r, am_nl_n, am_nl_l, Option.bind_some, Option.toList_some, Option.toList_none, List.cons_append, List.nil_append, if_true, if_false, Bool.false_eq_true, Int.reduceEq, Int.reduceAdd, ↓reduceIte, am_lsw, t0, c_er hR hW]
  · by_cases h1 : x = 1
    · subst h1
      have t1 : (1 : Int32).toInt = 1 := by decide
      simp (disch := first | assumption | omega | rfl | exact Nat.le_of_ble_eq_true rfl | decide) only [r62_0, r62_1, r62_28, r62_29, r62_32, r62_35, r62_36, r62_37, r62_40, r62_43, r62_44, r62_46, am_gf_0_3, am_nl_i, am_nl_r, am_nl_n, am_nl_l, Option.bind_some, Option.toList_some, Option.toList_none, List.cons_append, List.nil_append, if_true, if_false, Bool.false_eq_true, Int.reduceEq, Int.reduceAdd, ↓reduceIte, am_lsw, t1, c_fe hR hW, h0]
    · have t0 : ¬ x.toInt = 0 := lv_neT h0 rfl
      have t1 : ¬ x.toInt = 1 := lv_neT h1 rfl
      simp (disch := first | assumption | omega | rfl | exact Nat.le_of_ble_eq_true rfl | decide) only [r62_0, r62_1, r62_28, r62_29, r62_32, r62_35, r62_36, r62_37, r62_40, r62_43, r62_44, r62_46, am_gf_0_3, am_nl_i, am_nl_r, am_nl_n, am_nl_l, Option.bind_some, Option.toList_some, Option.toList_none, List.cons_append, List.nil_append, if_true, if_false, Bool.false_eq_true, Int.reduceEq, Int.reduceAdd, ↓reduceIte, am_lsw, t0, t1, h0, h1]
/-! mended -/
def s_q (T : tS) : Nat := cnt (s_al T) (s_n T)
def s_mF (T : tS) (b : Nat) : Nat × Nat := mdF (erS (s_n T) (s_q T) (s_kd T) (s_wr T) (s_al T) (s_f T) (s_g T) (s_lw T)) b (six (s_q T))
def mdS (T : tS) (x : Int32) : Int32 := if x = 0 then nI (s_mF T 13).1 else if nI (s_q T) ≤ x - 1 then -1 else dgS (s_q T) (s_mF T 13).2 (x - 1).toNatClampNeg
def sp_mended (T : tS) (x : Int32) : Int32 × tS := if x < 0 ∨ 4 < x then (-102, T) else if 4 < s_q T ∨ s_md T = 40 then (-103, T) else (mdS T x, x_md T (s_md T + 1))
theorem c_mended {d : Nat} {σ : am_St} {τ : Int64} {T : tS} {x : Int32} (hR : RC σ T) (hW : WF T) : ∃ σ' : am_St, am_call (d + 5) 63 [.ref 0, .int x] σ τ = some (some (.int (sp_mended T x).1), σ', τ) ∧ RC σ' (sp_mended T x).2 ∧ ∀ c, 42 ≤ c → σ' c = σ c := by
  have hn := hR.1
  have h12 := hW.1
  have hmd := hW.2.2.2.2.2.1
  have hm10 := hR.2.2.2.2.2.1
  have hq12 : s_q T ≤ 12 := Nat.le_trans (cnt_le _ _) h12
  have hfo : am_call (d + 4) 14 [.ref 4] σ τ = some (some (.int (nI (s_q T))), σ, τ) := by
    rw [c_founders (d := d + 3) hn h12]
    unfold s_q
    rw [cnt_congr (Q := s_al T) (fun i hi => by
      rw [isF_al (hR.ph hW) h12 hi]
      cases s_al T i <;> decide)]
  unfold sp_mended
  by_cases hx : x < 0 ∨ 4 < x
  · rw [if_pos hx]
    refine ⟨σ, ?_, hR, fun _ _ => rfl⟩
    show am_run (d + 5) 63 0 [.ref 0, .int x] [] σ τ = _
    by_cases h1 : x < 0
    · simp (disch := first | assumption | omega | rfl | exact Nat.le_of_ble_eq_true rfl | decide) only [r63_0, r63_1, r63_4, r63_5, r63_6, r63_9, r63_11, r63_12, r63_13, r63_16, r63_19, r63_20, r63_23, r63_24, r63_27, r63_29, r63_32, r63_34, r63_35, r63_36, r63_36i, r63_37, r63_40, r63_41, r63_42, r63_45, r63_46, r63_49, r63_50, r63_53, r63_56, r63_57, r63_60, r63_61, r63_64, r63_67, r63_70, r63_71, r63_74, r63_75, r63_76, r63_77, r63_80, am_gf_21_0, am_gf_0_1, am_gf_0_2, am_gf_0_4, am_gf_0_10, am_pf_0_10, am_nl_i, am_nl_r, am_nl_n, am_nl_l, Option.bind_some, Option.toList_some, Option.toList_none, List.cons_append, List.nil_append, if_true, if_false, Bool.false_eq_true, Int.reduceEq, Int.reduceAdd, ↓reduceIte, h1]
    · have h2 : ¬ x ≤ 4 := Int32.not_le.mpr (hx.resolve_left h1)
      simp (disch := first | assumption | omega | rfl | exact Nat.le_of_ble_eq_true rfl | decide) only [r63_0, r63_1, r63_4, r63_5, r63_6, r63_9, r63_11, r63_12, r63_13, r63_16, r63_19, r63_20, r63_23, r63_24, r63_27, r63_29, r63_32, r63_34, r63_35, r63_36, r63_36i, r63_37, r63_40, r63_41, r63_42, r63_45, r63_46, r63_49, r63_50, r63_53, r63_56, r63_57, r63_60, r63_61, r63_64, r63_67, r63_70, r63_71, r63_74, r63_75, r63_76, r63_77, r63_80, am_gf_21_0, am_gf_0_1, am_gf_0_2, am_gf_0_4, am_gf_0_10, am_pf_0_10, am_nl_i, am_nl_r, am_nl_n, am_nl_l, Option.bind_some, Option.toList_some, Option.toList_none, List.cons_append, List.nil_append, if_true, if_false, Bool.false_eq_true, Int.reduceEq, Int.reduceAdd, ↓reduceIte, h1, h2]
  · rw [if_neg hx]
    have h1 : ¬ x < 0 := fun q => hx (Or.inl q)
    have h2 : x ≤ 4 := Int32.not_lt.mp (fun q => hx (Or.inr q))
    by_cases hs : 4 < s_q T ∨ s_md T = 40
    · rw [if_pos hs]
      refine ⟨σ, ?_, hR, fun _ _ => rfl⟩
      show am_run (d + 5) 63 0 [.ref 0, .int x] [] σ τ = _
      by_cases h4 : 4 < s_q T
      · simp (disch := first | assumption | omega | rfl | exact Nat.le_of_ble_eq_true rfl | decide) only [r63_0, r63_1, r63_4, r63_5, r63_6, r63_9, r63_11, r63_12, r63_13, r63_16, r63_19, r63_20, r63_23, r63_24, r63_27, r63_29, r63_32, r63_34, r63_35, r63_36, r63_36i, r63_37, r63_40, r63_41, r63_42, r63_45, r63_46, r63_49, r63_50, r63_53, r63_56, r63_57, r63_60, r63_61, r63_64, r63_67, r63_70, r63_71, r63_74, r63_75, r63_76, r63_77, r63_80, am_gf_21_0, am_gf_0_1, am_gf_0_2, am_gf_0_4, am_gf_0_10, am_pf_0_10, am_nl_i, am_nl_r, am_nl_n, am_nl_l, Option.bind_some, Option.toList_some, Option.toList_none, List.cons_append, List.nil_append, if_true, if_false, Bool.false_eq_true, Int.reduceEq, Int.reduceAdd, ↓reduceIte, h1, h2, hfo, show (4 : Int32) = nI 4 from rfl, ni_lt, h4]
        rw [show (4 : Int32) = nI 4 from rfl] at h2
        simp only [h2, if_true]
      · have h40 : ¬ s_md T < 40 := by rcases hs with h | h <;> omega
        have h44 : ¬ nI 4 < nI (s_q T) := by rw [ni_lt (by omega) (by omega)]; exact h4
        have h45 : ¬ (4 : Int32) < nI (s_q T) := h44
        simp (disch := first | assumption | omega | rfl | exact Nat.le_of_ble_eq_true rfl | decide) only [r63_0, r63_1, r63_4, r63_5, r63_6, r63_9, r63_11, r63_12, r63_13, r63_16, r63_19, r63_20, r63_23, r63_24, r63_27, r63_29, r63_32, r63_34, r63_35, r63_36, r63_36i, r63_37, r63_40, r63_41, r63_42, r63_45, r63_46, r63_49, r63_50, r63_53, r63_56, r63_57, r63_60, r63_61, r63_64, r63_67, r63_70, r63_71, r63_74, r63_75, r63_76, r63_77, r63_80, am_gf_21_0, am_gf_0_1, am_gf_0_2, am_gf_0_4, am_gf_0_10, am_pf_0_10, am_nl_i, am_nl_r, am_nl_n, am_nl_l, Option.bind_some, Option.toList_some, Option.toList_none, List.cons_append, List.nil_append, if_true, if_false, Bool.false_eq_true, Int.reduceEq, Int.reduceAdd, ↓reduceIte, h1, h2, hfo, h45, hm10, show (40 : Int32) = nI 40 from rfl, ni_lt, h40]
    · rw [if_neg hs]
      have h4 : s_q T ≤ 4 := by omega
      have h40 : s_md T < 40 := by omega
      have h45 : ¬ (4 : Int32) < nI (s_q T) := by
        show ¬ nI 4 < nI (s_q T)
        rw [ni_lt (by omega) (by omega)]; omega
      have hph := hR.ph hW
      obtain ⟨σ', g1, g2, g3, g4, g5⟩ := c_msearch (d := d) (σ := am_up σ 0 10 (nI (s_md T + 1))) (τ := τ) (n := s_n T) (q := s_q T) (kd := s_kd T) (wr := s_wr T) (al := s_al T) (f := s_f T) (g := s_g T) (lw := s_lw T) h12 rfl h4 (by rw [am_up_ne (by decide)]; exact hn) (by rw [am_up_ne (by decide), am_up_ne (by decide)]; exact hph) (fun i hi => by rw [am_up_ne (by decide), am_up_ne (by decide)]; exact ⟨(hR.2.1 i hi).1, (hR.2.1 i hi).2.2.2.2.2.2.2.1⟩) (fun i hi => by rw [am_up_ne (by decide)]; exact hR.2.2.1 i hi)
      have h40' : nI (s_md T) < 40 := (nI_ltI (b := 40) (by omega) (by omega)).mpr h40
      have hRC : RC σ' (x_md T (s_md T + 1)) := by
        refine RC.keep (σ := am_up σ 0 10 (nI (s_md T + 1))) ?_ (fun c hc => g2 c (by omega) (by omega) (by omega) (by omega) (by omega) (by omega))
        obtain ⟨r1, r2, r3, r4, r5, r6, r7⟩ := hR
        refine ⟨by rw [am_up_ne (by decide)]; exact r1, fun i hi => by simp (disch := decide) only [am_up_ne]; exact r2 i hi, fun i hi => by rw [am_up_ne (by decide)]; exact r3 i hi, by rw [am_up_ne (by decide), am_up_ne (by decide)]; exact r4, by rw [am_up_eq, pk_un (by decide)]; exact r5, by rw [am_up_eq, pk_us]; rfl, by simp (disch := decide) only [am_up_ne]; exact r7⟩
      have pre : am_run (d + 5) 63 0 [.ref 0, .int x] [] σ τ = am_run (d + 5) 63 56 [.ref 0, .int x] [] σ' τ := by
        simp (disch := first | assumption | omega | rfl | exact Nat.le_of_ble_eq_true rfl | decide) only [r63_0, r63_1, r63_4, r63_5, r63_6, r63_9, r63_11, r63_12, r63_13, r63_16, r63_19, r63_20, r63_23, r63_24, r63_27, r63_29, r63_32, r63_34, r63_35, r63_36, r63_36i, r63_37, r63_40, r63_41, r63_42, r63_45, r63_46, r63_49, r63_50, r63_53, r63_57, r63_60, r63_61, r63_64, r63_67, r63_70, r63_71, r63_74, r63_75, r63_76, r63_77, r63_80, am_gf_21_0, am_gf_0_1, am_gf_0_2, am_gf_0_4, am_gf_0_10, am_pf_0_10, am_nl_i, am_nl_r, am_nl_n, am_nl_l, Option.bind_some, Option.toList_some, Option.toList_none, List.cons_append, List.nil_append, if_true, if_false, Bool.false_eq_true, Int.reduceEq, Int.reduceAdd, ↓reduceIte, h1, h2, hfo, h45, hm10, h40', nI_1, g1]
      refine ⟨σ', ?_, hRC, fun c hc => by rw [g2 c (by omega) (by omega) (by omega) (by omega) (by omega) (by omega), am_up_ne (by omega)]⟩
      show am_run (d + 5) 63 0 [.ref 0, .int x] [] σ τ = _
      rw [pre, r63_56]
      show _ = some (some (Value.int (mdS T x)), σ', τ)
      unfold mdS
      obtain ⟨k, hk, rfl⟩ := nI_of2 (M := 4) (n := 4) (by decide) h1 h2
      cases k with
      | zero =>
        have e0 : nI 0 = 0 := rfl
        simp (disch := first | assumption | omega | rfl | exact Nat.le_of_ble_eq_true rfl | decide) only [r63_0, r63_1, r63_4, r63_5, r63_6, r63_9, r63_11, r63_12, r63_13, r63_16, r63_19, r63_20, r63_23, r63_24, r63_27, r63_29, r63_32, r63_34, r63_35, r63_36, r63_36i, r63_37, r63_40, r63_41, r63_42, r63_45, r63_46, r63_49, r63_50, r63_53, r63_56, r63_57, r63_60, r63_61, r63_64, r63_67, r63_70, r63_71, r63_74, r63_75, r63_76, r63_77, r63_80, am_gf_21_0, am_gf_0_1, am_gf_0_2, am_gf_0_4, am_gf_0_10, am_pf_0_10, am_nl_i, am_nl_r, am_nl_n, am_nl_l, Option.bind_some, Option.toList_some, Option.toList_none, List.cons_append, List.nil_append, if_true, if_false, Bool.false_eq_true, Int.reduceEq, Int.reduceAdd, ↓reduceIte, e0, g4]
        rfl
      | succ j =>
        have hx0 : ¬ nI (j + 1) = 0 := nI_ne0 (by omega) (by omega)
        have hj0 : ¬ nI j < 0 := nI_pos (by omega)
        have hno := c_nameOfFounder (d := d + 4) (σ := σ') (τ := τ) (x := nI j) g3 h4
        rw [if_neg hj0] at hno
        by_cases hqx : s_q T ≤ j
        · have hq2 : nI (s_q T) ≤ nI j := nI_le hqx (by omega)
          rw [if_pos hq2] at hno
          simp (disch := first | assumption | omega | rfl | exact Nat.le_of_ble_eq_true rfl | decide) only [r63_0, r63_1, r63_4, r63_5, r63_6, r63_9, r63_11, r63_12, r63_13, r63_16, r63_19, r63_20, r63_23, r63_24, r63_27, r63_29, r63_32, r63_34, r63_35, r63_36, r63_36i, r63_37, r63_40, r63_41, r63_42, r63_45, r63_46, r63_49, r63_50, r63_53, r63_56, r63_57, r63_60, r63_61, r63_64, r63_67, r63_70, r63_71, r63_74, r63_75, r63_76, r63_77, r63_80, am_gf_21_0, am_gf_0_1, am_gf_0_2, am_gf_0_4, am_gf_0_10, am_pf_0_10, am_nl_i, am_nl_r, am_nl_n, am_nl_l, Option.bind_some, Option.toList_some, Option.toList_none, List.cons_append, List.nil_append, if_true, if_false, Bool.false_eq_true, Int.reduceEq, Int.reduceAdd, ↓reduceIte, hx0, nI_pred, hno, hq2]
        · have hq2 : ¬ nI (s_q T) ≤ nI j := by rw [ni_le (by omega) (by omega)]; exact hqx
          rw [if_neg hq2, nI_clamp (by omega), g5 j (by omega)] at hno
          simp (disch := first | assumption | omega | rfl | exact Nat.le_of_ble_eq_true rfl | decide) only [r63_0, r63_1, r63_4, r63_5, r63_6, r63_9, r63_11, r63_12, r63_13, r63_16, r63_19, r63_20, r63_23, r63_24, r63_27, r63_29, r63_32, r63_34, r63_35, r63_36, r63_36i, r63_37, r63_40, r63_41, r63_42, r63_45, r63_46, r63_49, r63_50, r63_53, r63_56, r63_57, r63_60, r63_61, r63_64, r63_67, r63_70, r63_71, r63_74, r63_75, r63_76, r63_77, r63_80, am_gf_21_0, am_gf_0_1, am_gf_0_2, am_gf_0_4, am_gf_0_10, am_pf_0_10, am_nl_i, am_nl_r, am_nl_n, am_nl_l, Option.bind_some, Option.toList_some, Option.toList_none, List.cons_append, List.nil_append, if_true, if_false, Bool.false_eq_true, Int.reduceEq, Int.reduceAdd, ↓reduceIte, hx0, nI_pred, hno, hq2, nI_clamp]
          rfl
