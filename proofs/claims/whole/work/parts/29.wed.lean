/-! OtherName$Couples: leastWife, wedAll -/
theorem ff_spec {P : Nat → Bool} : ∀ k i0, (∃ i, i0 ≤ i ∧ i < i0 + k ∧ P i = true ∧ ff P k i0 = nI i) ∨ (ff P k i0 = -1 ∧ ∀ i, i0 ≤ i → i < i0 + k → P i = false) := by
  intro k
  induction k with
  | zero => intro i0; exact Or.inr ⟨rfl, fun i a b => by omega⟩
  | succ k ih =>
    intro i0
    unfold ff
    by_cases hp : P i0 = true
    · rw [if_pos hp]; exact Or.inl ⟨i0, by omega, by omega, hp, rfl⟩
    · rw [if_neg hp]
      rcases ih (i0 + 1) with ⟨i, a, b, c, e⟩ | ⟨a, b⟩
      · exact Or.inl ⟨i, by omega, by omega, c, e⟩
      · refine Or.inr ⟨a, fun i h1 h2 => ?_⟩
        by_cases e : i = i0
        · subst e; simpa using hp
        · exact b i (by omega) (by omega)
/-- a woman with whom as many couples as ever can still be -/
def wfB (n : Nat) (ad : Nat → Nat → Bool) (U : Nat → Bool) (m i : Nat) : Bool := ad m i && (!U i && decide (1 + bsF n ad (n - (m + 1)) (m + 1) (upB U i) = bsF n ad (n - m) m U))
def wfS (n : Nat) (ad : Nat → Nat → Bool) (U : Nat → Bool) (m : Nat) : Int32 := ff (wfB n ad U m) n 0
theorem c_leastWife_loop {d n m l : Nat} {τ : Int64} {ad : Nat → Nat → Bool} {U : Nat → Bool} {tk : Int32} (h12 : n ≤ 12) (hm : m < n) (hl : l = bsF n ad (n - m) m U) (hU : ∀ j, j < n → bt tk j = U j) : ∀ k i (v5 : Value) (σ : am_St), i + k = n → σ 4 0 = nI n → (∀ a, a < n → ∀ j, j < n → bt (σ 36 a) j = ad a j) → ∃ σ' : am_St, am_run (d + 15) 3 3 [.ref 34, .int (nI m), .int tk, .int (nI l), .int (nI i), v5] [] σ τ = some (some (.int (ff (wfB n ad U m) k i)), σ', τ) ∧ KF σ σ' := by
  intro k
  have hm12 : m < 12 := by omega
  have hl12 : l ≤ 12 := by rw [hl]; have := bsF_le (n := n) (ad := ad) (n - m) m U; omega
  induction k with
  | zero =>
    intro i v5 σ hi hn had
    have e1 : i = n := by omega
    subst e1
    refine ⟨σ, ?_, KF.rf⟩
    rw [r3_3]
    simp (disch := first | assumption | omega | rfl | exact Nat.le_of_ble_eq_true rfl | decide) only [r3_0, r3_1, r3_5, r3_6, r3_9, r3_12, r3_15, r3_16, r3_18, r3_19, r3_21, r3_22, r3_25, r3_26, r3_27, r3_28, r3_29, r3_30, r3_31, r3_33, r3_34, r3_37, r3_38, r3_39, r3_40, r3_41, r3_42, r3_43, r3_45, r3_46, r3_49, r3_50, r3_51, r3_54, r3_56, r3_57, r3_60, r3_63, r3_64, am_gf_34_2, am_gf_34_5, am_gf_4_0, am_ai_36, am_nl_i, am_nl_r, am_nl_n, am_nl_l, Option.bind_some, Option.toList_some, Option.toList_none, List.cons_append, List.nil_append, if_true, if_false, Bool.false_eq_true, Int.reduceEq, Int.reduceAdd, ↓reduceIte, hn, i_rf, ff]
  | succ k ih =>
    intro i v5 σ hi hn had
    have hc : ¬ n ≤ i := by omega
    have hi12 : i < 12 := by omega
    have hin : i < n := by omega
    have ht := bt_test (a := σ 36 m) (b := tk) (i := i) (by omega)
    rw [had m hm i hin, hU i hin] at ht
    unfold ff
    by_cases hx : ad m i = true ∧ U i = false
    · have ht2 : ¬ ((σ 36 m &&& (tk ^^^ (-1))) &&& ((1 : Int32) <<< (nI i &&& 31)) = 0) := by rw [ht]; exact fun q => q hx
      obtain ⟨σ1, a1, a2⟩ := c_mostFrom (d := d) (σ := σ) (τ := τ) (ad := ad) (U := upB U i) (tk := tk ||| ((1 : Int32) <<< (nI i &&& 31))) h12 (show m + 1 ≤ n by omega) (fun j hj => by
        rw [bt_or1 (by omega) (by omega), hU j hj]
        unfold upB
        by_cases e : j = i <;> simp [e]) hn had
      rw [mf_bs h12 (by omega)] at a1
      have hb12 : bsF n ad (n - (m + 1)) (m + 1) (upB U i) ≤ 12 := by have := bsF_le (n := n) (ad := ad) (n - (m + 1)) (m + 1) (upB U i); omega
      have e1p : (1 : Int32) + nI (bsF n ad (n - (m + 1)) (m + 1) (upB U i)) = nI (1 + bsF n ad (n - (m + 1)) (m + 1) (upB U i)) := nI_add 1 _
      by_cases he : 1 + bsF n ad (n - (m + 1)) (m + 1) (upB U i) = l
      · have hw : wfB n ad U m i = true := by unfold wfB; rw [hx.1, hx.2, ← hl, decide_eq_true he]; rfl
        refine ⟨σ1, ?_, a2⟩
        rw [r3_3]
        simp (disch := first | assumption | omega | rfl | exact Nat.le_of_ble_eq_true rfl | decide) only [r3_0, r3_1, r3_5, r3_6, r3_9, r3_12, r3_15, r3_16, r3_18, r3_19, r3_21, r3_22, r3_25, r3_26, r3_27, r3_28, r3_29, r3_30, r3_31, r3_33, r3_34, r3_37, r3_38, r3_39, r3_40, r3_41, r3_42, r3_43, r3_45, r3_46, r3_49, r3_50, r3_51, r3_54, r3_56, r3_57, r3_60, r3_63, r3_64, am_gf_34_2, am_gf_34_5, am_gf_4_0, am_ai_36, am_nl_i, am_nl_r, am_nl_n, am_nl_l, Option.bind_some, Option.toList_some, Option.toList_none, List.cons_append, List.nil_append, if_true, if_false, Bool.false_eq_true, Int.reduceEq, Int.reduceAdd, ↓reduceIte, hn, ni_le, hc, ht2, nI_1, a1, e1p, ni_eq, he, hw]
      · have hw : wfB n ad U m i = false := by unfold wfB; rw [hx.1, hx.2, ← hl, decide_eq_false he]; rfl
        obtain ⟨σ', g1, g2⟩ := ih (i + 1) (.int ((1 : Int32) <<< (nI i &&& 31))) σ1 (by omega) (by rw [a2.1 4 (by decide) (by decide)]; exact hn) (fun a ha j hj => by rw [a2.1 36 (by decide) (by decide)]; exact had a ha j hj)
        refine ⟨σ', ?_, a2.tr g2⟩
        rw [hw, if_neg (by decide), ← g1, r3_3]
        simp (disch := first | assumption | omega | rfl | exact Nat.le_of_ble_eq_true rfl | decide) only [r3_0, r3_1, r3_5, r3_6, r3_9, r3_12, r3_15, r3_16, r3_18, r3_19, r3_21, r3_22, r3_25, r3_26, r3_27, r3_28, r3_29, r3_30, r3_31, r3_33, r3_34, r3_37, r3_38, r3_39, r3_40, r3_41, r3_42, r3_43, r3_45, r3_46, r3_49, r3_50, r3_51, r3_54, r3_56, r3_57, r3_60, r3_63, r3_64, am_gf_34_2, am_gf_34_5, am_gf_4_0, am_ai_36, am_nl_i, am_nl_r, am_nl_n, am_nl_l, Option.bind_some, Option.toList_some, Option.toList_none, List.cons_append, List.nil_append, if_true, if_false, Bool.false_eq_true, Int.reduceEq, Int.reduceAdd, ↓reduceIte, hn, ni_le, hc, ht2, nI_1, a1, e1p, ni_eq, he]
    · have ht2 : (σ 36 m &&& (tk ^^^ (-1))) &&& ((1 : Int32) <<< (nI i &&& 31)) = 0 := by rw [ht]; exact hx
      have hw : wfB n ad U m i = false := by
        unfold wfB
        cases h1 : ad m i with
        | false => rfl
        | true =>
          cases h2 : U i with
          | true => rfl
          | false => exact absurd ⟨h1, h2⟩ hx
      obtain ⟨σ', g1, g2⟩ := ih (i + 1) (.int ((1 : Int32) <<< (nI i &&& 31))) σ (by omega) hn had
      refine ⟨σ', ?_, g2⟩
      rw [hw, if_neg (by decide), ← g1, r3_3]
      simp (disch := first | assumption | omega | rfl | exact Nat.le_of_ble_eq_true rfl | decide) only [r3_0, r3_1, r3_5, r3_6, r3_9, r3_12, r3_15, r3_16, r3_18, r3_19, r3_21, r3_22, r3_25, r3_26, r3_27, r3_28, r3_29, r3_30, r3_31, r3_33, r3_34, r3_37, r3_38, r3_39, r3_40, r3_41, r3_42, r3_43, r3_45, r3_46, r3_49, r3_50, r3_51, r3_54, r3_56, r3_57, r3_60, r3_63, r3_64, am_gf_34_2, am_gf_34_5, am_gf_4_0, am_ai_36, am_nl_i, am_nl_r, am_nl_n, am_nl_l, Option.bind_some, Option.toList_some, Option.toList_none, List.cons_append, List.nil_append, if_true, if_false, Bool.false_eq_true, Int.reduceEq, Int.reduceAdd, ↓reduceIte, hn, ni_le, hc, ht2, nI_1]
theorem c_leastWife {d n m l : Nat} {σ : am_St} {τ : Int64} {ad : Nat → Nat → Bool} {U : Nat → Bool} {tk : Int32} (h12 : n ≤ 12) (hm : m < n) (hl : l = bsF n ad (n - m) m U) (hU : ∀ j, j < n → bt tk j = U j) (hn : σ 4 0 = nI n) (had : ∀ a, a < n → ∀ j, j < n → bt (σ 36 a) j = ad a j) : ∃ σ' : am_St, am_call (d + 15) 3 [.ref 34, .int (nI m), .int tk, .int (nI l)] σ τ = some (some (.int (wfS n ad U m)), σ', τ) ∧ KF σ σ' := by
  obtain ⟨σ', g1, g2⟩ := c_leastWife_loop (d := d) (τ := τ) (tk := tk) h12 hm hl hU n 0 .null σ (by omega) hn had
  refine ⟨σ', ?_, g2⟩
  show am_run (d + 15) 3 0 [.ref 34, .int (nI m), .int tk, .int (nI l), .null, .null] [] σ τ = _
  simp (disch := first | assumption | omega | rfl | exact Nat.le_of_ble_eq_true rfl | decide) only [r3_0, r3_1, r3_5, r3_6, r3_9, r3_12, r3_15, r3_16, r3_18, r3_19, r3_21, r3_22, r3_25, r3_26, r3_27, r3_28, r3_29, r3_30, r3_31, r3_33, r3_34, r3_37, r3_38, r3_39, r3_40, r3_41, r3_42, r3_43, r3_45, r3_46, r3_49, r3_50, r3_51, r3_54, r3_56, r3_57, r3_60, r3_63, r3_64, am_gf_34_2, am_gf_34_5, am_gf_4_0, am_ai_36, am_nl_i, am_nl_r, am_nl_n, am_nl_l, Option.bind_some, Option.toList_some, Option.toList_none, List.cons_append, List.nil_append, if_true, if_false, Bool.false_eq_true, Int.reduceEq, Int.reduceAdd, ↓reduceIte]
  exact g1
/-- the couples: who is taken, and who weds whom, after the first m men -/
def wdF (n : Nat) (ad : Nat → Nat → Bool) : Nat → (Nat → Bool) × (Nat → Int32)
  | 0 => (fun _ => false, fun _ => -1)
  | m + 1 => if wfS n ad (wdF n ad m).1 m = -1 then wdF n ad m else (upB (wdF n ad m).1 (wfS n ad (wdF n ad m).1 m).toNatClampNeg, upd (upd (wdF n ad m).2 m (wfS n ad (wdF n ad m).1 m)) (wfS n ad (wdF n ad m).1 m).toNatClampNeg (nI m))
theorem wdF_s (n : Nat) (ad : Nat → Nat → Bool) (m : Nat) : wdF n ad (m + 1) = if wfS n ad (wdF n ad m).1 m = -1 then wdF n ad m else (upB (wdF n ad m).1 (wfS n ad (wdF n ad m).1 m).toNatClampNeg, upd (upd (wdF n ad m).2 m (wfS n ad (wdF n ad m).1 m)) (wfS n ad (wdF n ad m).1 m).toNatClampNeg (nI m)) := rfl
theorem bs_none {n m : Nat} {ad : Nat → Nat → Bool} {U : Nat → Bool} (hm : m < n) (h : wfS n ad U m = -1) (h12 : n ≤ 12) : bsF n ad (n - m) m U = bsF n ad (n - (m + 1)) (m + 1) U := by
  rcases ff_spec (P := wfB n ad U m) n 0 with ⟨i, a, b, c, e⟩ | ⟨a, b⟩
  · unfold wfS at h
    rw [e] at h
    exact absurd h (am_nm1 (by omega))
  · have e : n - m = (n - (m + 1)) + 1 := by omega
    have hs := bsF_s n ad (n - (m + 1)) m U
    rw [← e] at hs
    rcases mxF_or (bsF n ad (n - (m + 1)) (m + 1) U) (fun q => ad m q && !U q) (fun q => 1 + bsF n ad (n - (m + 1)) (m + 1) (upB U q)) n with q | ⟨j, q1, q2, q3⟩
    · rw [hs, q]
    · exfalso
      have := b j (Nat.zero_le j) (by omega)
      unfold wfB at this
      simp only [Bool.and_eq_true, Bool.not_eq_true'] at q2
      rw [q2.1, q2.2, hs, q3, decide_eq_true rfl] at this
      cases this
theorem c_wed_loop {d n : Nat} {τ : Int64} {ad : Nat → Nat → Bool} (h12 : n ≤ 12) : ∀ k m (v4 : Value) (tk : Int32) (σ : am_St), m + k = n → am_nl v4 = v4 → σ 4 0 = nI n → (∀ a, a < n → ∀ j, j < n → bt (σ 36 a) j = ad a j) → (∀ j, j < n → bt tk j = (wdF n ad m).1 j) → (∀ j, j < 12 → σ 35 j = (wdF n ad m).2 j) → ∃ σ' : am_St, am_run (d + 16) 1 23 [.ref 34, .int (nI (bsF n ad (n - m) m (wdF n ad m).1)), .int tk, .int (nI m), v4] [] σ τ = some (none, σ', τ) ∧ (∀ c, c ≠ 34 → c ≠ 35 → c ≠ 37 → σ' c = σ c) ∧ (∀ j, j ≠ 4 → σ' 34 j = σ 34 j) ∧ ∀ j, j < 12 → σ' 35 j = (wdF n ad n).2 j := by
  intro k
  induction k with
  | zero =>
    intro m v4 tk σ hm hv hn had hU hsp
    have e1 : m = n := by omega
    subst e1
    refine ⟨σ, ?_, fun _ _ _ _ => rfl, fun _ _ => rfl, hsp⟩
    rw [r1_23]
    simp (disch := first | assumption | omega | rfl | exact Nat.le_of_ble_eq_true rfl | decide) only [r1_0, r1_1, r1_4, r1_5, r1_6, r1_7, r1_8, r1_11, r1_14, r1_15, r1_18, r1_19, r1_20, r1_21, r1_22, r1_24, r1_25, r1_28, r1_31, r1_34, r1_35, r1_36, r1_37, r1_38, r1_41, r1_43, r1_45, r1_46, r1_49, r1_50, r1_53, r1_54, r1_56, r1_57, r1_58, r1_61, r1_63, r1_64, r1_65, r1_66, r1_67, r1_69, r1_70, r1_71, r1_72, r1_75, r1_78, r1_81, am_gf_34_0, am_gf_34_1, am_gf_34_5, am_gf_4_0, am_pf_34_0, am_ai_35, am_nl_i, am_nl_r, am_nl_n, am_nl_l, Option.bind_some, Option.toList_some, Option.toList_none, List.cons_append, List.nil_append, if_true, if_false, Bool.false_eq_true, Int.reduceEq, Int.reduceAdd, ↓reduceIte, hn, i_rf]
  | succ k ih =>
    intro m v4 tk σ hm hv hn had hU hsp
    have hc : ¬ n ≤ m := by omega
    have hm12 : m < 12 := by omega
    obtain ⟨σ1, a1, a2⟩ := c_leastWife (d := d) (σ := σ) (τ := τ) (tk := tk) (U := (wdF n ad m).1) h12 (show m < n by omega) rfl hU hn had
    have k1 : ∀ c, c ≠ 34 → c ≠ 37 → σ1 c = σ c := a2.1
    by_cases hw : wfS n ad (wdF n ad m).1 m = -1
    · have hs : wdF n ad (m + 1) = wdF n ad m := by rw [wdF_s, if_pos hw]
      have hb := bs_none (show m < n by omega) hw h12
      obtain ⟨σ', g1, g2, g3, g4⟩ := ih (m + 1) (.int (-1)) tk σ1 (by omega) rfl (by rw [k1 4 (by decide) (by decide)]; exact hn) (fun a ha j hj => by rw [k1 36 (by decide) (by decide)]; exact had a ha j hj) (fun j hj => by rw [hs]; exact hU j hj) (fun j hj => by rw [hs, k1 35 (by decide) (by decide)]; exact hsp j hj)
      refine ⟨σ', ?_, fun c x y z => by rw [g2 c x y z, k1 c x z], fun j x => by rw [g3 j x, a2.2 j x], g4⟩
      rw [← g1, hs, ← hb, r1_23]
      simp (disch := first | assumption | omega | rfl | exact Nat.le_of_ble_eq_true rfl | decide) only [r1_0, r1_1, r1_4, r1_5, r1_6, r1_7, r1_8, r1_11, r1_14, r1_15, r1_18, r1_19, r1_20, r1_21, r1_22, r1_24, r1_25, r1_28, r1_31, r1_34, r1_35, r1_36, r1_37, r1_38, r1_41, r1_43, r1_45, r1_46, r1_49, r1_50, r1_53, r1_54, r1_56, r1_57, r1_58, r1_61, r1_63, r1_64, r1_65, r1_66, r1_67, r1_69, r1_70, r1_71, r1_72, r1_75, r1_78, r1_81, am_gf_34_0, am_gf_34_1, am_gf_34_5, am_gf_4_0, am_pf_34_0, am_ai_35, am_nl_i, am_nl_r, am_nl_n, am_nl_l, Option.bind_some, Option.toList_some, Option.toList_none, List.cons_append, List.nil_append, if_true, if_false, Bool.false_eq_true, Int.reduceEq, Int.reduceAdd, ↓reduceIte, hn, ni_le, hc, a1, hw, nI_1]
    · rcases ff_spec (P := wfB n ad (wdF n ad m).1 m) n 0 with ⟨w, -, hwn, hwb, e⟩ | ⟨e, -⟩
      · have ew : wfS n ad (wdF n ad m).1 m = nI w := e
        have hw12 : w < 12 := by omega
        have hs : wdF n ad (m + 1) = (upB (wdF n ad m).1 w, upd (upd (wdF n ad m).2 m (nI w)) w (nI m)) := by rw [wdF_s, if_neg hw, ew, nI_clamp (by omega)]
        unfold wfB at hwb
        simp only [Bool.and_eq_true, Bool.not_eq_true', decide_eq_true_eq] at hwb
        have hbl := hwb.2.2
        have hdec : nI (bsF n ad (n - m) m (wdF n ad m).1) + (-1) = nI (bsF n ad (n - (m + 1)) (m + 1) (upB (wdF n ad m).1 w)) := by
          rw [← hbl, Nat.add_comm, pk_m1]
        obtain ⟨σ', g1, g2, g3, g4⟩ := ih (m + 1) (.int (nI w)) (tk ||| ((1 : Int32) <<< (nI w &&& 31))) (am_up (am_up σ1 35 m (nI w)) 35 w (nI m)) (by omega) rfl (by rw [am_up_ne (by decide), am_up_ne (by decide), k1 4 (by decide) (by decide)]; exact hn) (fun a ha j hj => by rw [am_up_ne (by decide), am_up_ne (by decide), k1 36 (by decide) (by decide)]; exact had a ha j hj) (fun j hj => by
          rw [hs, bt_or1 (by omega) (by omega), hU j hj]
          unfold upB
          by_cases e : j = w <;> simp [e]) (fun j hj => by
          rw [hs, am_up_eq, am_up_eq]
          unfold upd
          dsimp only
          split
          · rfl
          · split
            · rfl
            · rw [k1 35 (by decide) (by decide)]; exact hsp j hj)
        refine ⟨σ', ?_, fun c x y z => by rw [g2 c x y z, am_up_ne y, am_up_ne y, k1 c x z], fun j x => by rw [g3 j x, am_up_ne (by decide), am_up_ne (by decide), a2.2 j x], g4⟩
        rw [ew] at a1
        have hne : ¬ nI w = -1 := am_nm1 (by omega)
        rw [← g1, hs, r1_23]
        simp (disch := first | assumption | omega | rfl | exact Nat.le_of_ble_eq_true rfl | decide) only [r1_0, r1_1, r1_4, r1_5, r1_6, r1_7, r1_8, r1_11, r1_14, r1_15, r1_18, r1_19, r1_20, r1_21, r1_22, r1_24, r1_25, r1_28, r1_31, r1_34, r1_35, r1_36, r1_37, r1_38, r1_41, r1_43, r1_45, r1_46, r1_49, r1_50, r1_53, r1_54, r1_56, r1_57, r1_58, r1_61, r1_63, r1_64, r1_65, r1_66, r1_67, r1_69, r1_70, r1_71, r1_72, r1_75, r1_78, r1_81, am_gf_34_0, am_gf_34_1, am_gf_34_5, am_gf_4_0, am_pf_34_0, am_ai_35, am_nl_i, am_nl_r, am_nl_n, am_nl_l, Option.bind_some, Option.toList_some, Option.toList_none, List.cons_append, List.nil_append, if_true, if_false, Bool.false_eq_true, Int.reduceEq, Int.reduceAdd, ↓reduceIte, hn, ni_le, hc, a1, hne, nI_1, hdec]
      · exact absurd e hw
/-- couples: how many, and who weds whom -/
theorem c_wedAll {d n : Nat} {σ : am_St} {τ : Int64} (h12 : n ≤ 12) (hn : σ 4 0 = nI n) : ∃ σ' : am_St, am_call (d + 16) 1 [.ref 34] σ τ = some (none, σ', τ) ∧ (∀ c, (c < 34 ∨ 37 < c) → σ' c = σ c) ∧ σ' 34 0 = nI (bsF n (adB n (σ 6) (σ 13) (σ 16) (dsS (σ 14) n)) n 0 (fun _ => false)) ∧ ∀ j, j < 12 → σ' 35 j = (wdF n (adB n (σ 6) (σ 13) (σ 16) (dsS (σ 14) n)) n).2 j := by
  generalize hadd : adB n (σ 6) (σ 13) (σ 16) (dsS (σ 14) n) = ad
  obtain ⟨σ1, a1, a2, a3, a4⟩ := c_findWomen (d := d + 12) (σ := σ) (τ := τ) h12 hn
  rw [hadd] at a4
  have had1 : ∀ a, a < n → ∀ j, j < n → bt (σ1 36 a) j = ad a j := fun a ha j hj => a4 a ha j (by omega)
  obtain ⟨σ2, b1, b2⟩ := c_mostFrom (d := d + 1) (σ := σ1) (τ := τ) (ad := ad) (U := fun _ => false) (tk := 0) h12 (Nat.zero_le n) (fun j _ => b_0 j) (by rw [a2 4 (by decide) (by decide)]; exact hn) had1
  rw [mf_bs h12 (Nat.zero_le n), Nat.sub_zero] at b1
  have k2 : ∀ c, (c < 34 ∨ 37 < c) → am_up σ2 34 0 (nI (bsF n ad n 0 (fun _ => false))) c = σ c := fun c h => by rw [am_up_ne (by omega), b2.1 c (by omega) (by omega), a2 c (by omega) (by omega)]
  obtain ⟨σ', g1, g2, g3, g4⟩ := c_wed_loop (d := d) (τ := τ) (ad := ad) h12 n 0 .null 0 (am_up σ2 34 0 (nI (bsF n ad n 0 (fun _ => false)))) (by omega) rfl (by rw [k2 4 (by omega)]; exact hn) (fun a ha j hj => by rw [am_up_ne (by decide), b2.1 36 (by decide) (by decide)]; exact had1 a ha j hj) (fun j _ => b_0 j) (fun j hj => by rw [am_up_ne (by decide), b2.1 35 (by decide) (by decide)]; exact a3 j hj)
  refine ⟨σ', ?_, fun c h => by rw [g2 c (by omega) (by omega) (by omega), k2 c h], by rw [g3 0 (by decide), am_up_eq, pk_us], g4⟩
  show am_run (d + 16) 1 0 [.ref 34, .null, .null, .null, .null] [] σ τ = _
  have ez : nI 0 = 0 := rfl
  rw [ez] at b1
  simp (disch := first | assumption | omega | rfl | exact Nat.le_of_ble_eq_true rfl | decide) only [r1_0, r1_1, r1_4, r1_5, r1_6, r1_7, r1_8, r1_11, r1_14, r1_15, r1_18, r1_19, r1_20, r1_21, r1_22, r1_24, r1_25, r1_28, r1_31, r1_34, r1_35, r1_36, r1_37, r1_38, r1_41, r1_43, r1_45, r1_46, r1_49, r1_50, r1_53, r1_54, r1_56, r1_57, r1_58, r1_61, r1_63, r1_64, r1_65, r1_66, r1_67, r1_69, r1_70, r1_71, r1_72, r1_75, r1_78, r1_81, am_gf_34_0, am_gf_34_1, am_gf_34_5, am_gf_4_0, am_pf_34_0, am_ai_35, am_nl_i, am_nl_r, am_nl_n, am_nl_l, Option.bind_some, Option.toList_some, Option.toList_none, List.cons_append, List.nil_append, if_true, if_false, Bool.false_eq_true, Int.reduceEq, Int.reduceAdd, ↓reduceIte, a1, b1, am_up_eq, pk_us]
  rw [Nat.sub_zero] at g1
  exact g1
