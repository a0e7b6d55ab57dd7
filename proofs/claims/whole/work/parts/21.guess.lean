/-! OtherName$Guessing, on -/
/-- the man whom a code tells for the k-th gap -/
def mnS (gp mn : Nat → Bool) (n c k : Nat) : Nat := selP mn (c / prF (bsS gp mn n) k % bsS gp mn n k) n
theorem emax {b : Nat} (h : 0 < b) (hb : b < 2147483648) : (if (1 : Int32) < nI b then nI b else 1) = nI b := by
  by_cases h1 : b = 1
  · subst h1; decide
  · have h2 : (1 : Int32) < nI b := (nI_ltI (a := 1) (by omega) hb).mpr (by omega)
    rw [if_pos h2]
theorem c_fillGaps_loop {d n c0 G : Nat} {τ : Int64} {gp mn : Nat → Bool} {v1 : Value} (hv : am_nl v1 = v1) (h12 : n ≤ 12) (hG : G = cnt gp n) (h3 : G ≤ 3) (hpos : ∀ i, i < n → gp i = true → 0 < cnt mn i) (hc0 : c0 < 2147483648) : ∀ k q (v4 : Value) (σ : am_St), q + k = G → am_nl v4 = v4 → σ 25 2 = nI G → (∀ j, j < n → gp j = true → σ 27 (cnt gp j) = nI j ∧ σ 28 (cnt gp j) = nI (cnt mn j)) → (∀ j, j < n → mn j = true → σ 29 (cnt mn j) = nI j) →
    ∃ σ' : am_St, am_run d 22 4 [.ref 25, v1, .int (nI (c0 / prF (bsS gp mn n) q)), .int (nI q), v4] [] σ τ = some (none, σ', τ) ∧ (∀ a, a ≠ 30 → σ' a = σ a) ∧ (∀ j, j < n → gp j = true → σ' 30 j = if q ≤ cnt gp j then nI (mnS gp mn n c0 (cnt gp j)) else σ 30 j) ∧ ∀ j, j < n → gp j = false → σ' 30 j = σ 30 j := by
  intro k
  induction k with
  | zero =>
    intro q v4 σ hq hv4 hqs hat hmen
    have e : q = G := by omega
    subst e
    refine ⟨σ, ?_, fun _ _ => rfl, fun j hj hg => by rw [if_neg (by have := cnt_lt hj hg; omega)], fun _ _ _ => rfl⟩
    rw [r22_4]
    simp (disch := first | assumption | omega | rfl | exact Nat.le_of_ble_eq_true rfl | decide) only [r22_0, r22_1, r22_2, r22_3, r22_5, r22_6, r22_9, r22_12, r22_13, r22_14, r22_17, r22_18, r22_19, r22_22, r22_24, r22_25, r22_28, r22_29, r22_32, r22_33, r22_34, r22_35, r22_38, r22_39, r22_41, r22_42, r22_43, r22_44, r22_45, r22_47, r22_48, r22_49, r22_52, r22_55, am_gf_25_2, am_gf_25_3, am_gf_25_4, am_gf_25_5, am_gf_25_6, am_ai_27, am_ai_28, am_ai_29, am_ai_30, am_nl_i, am_nl_r, am_nl_n, am_nl_l, Option.bind_some, Option.toList_some, Option.toList_none, List.cons_append, List.nil_append, if_true, if_false, Bool.false_eq_true, Int.reduceEq, Int.reduceAdd, ↓reduceIte, hqs, i_rf]
  | succ k ih =>
    intro q v4 σ hq hv4 hqs hat hmen
    have hc : ¬ G ≤ q := by omega
    obtain ⟨i, hi, hg, hci⟩ := cnt_sel (P := gp) (k := q) (n := n) (by omega)
    obtain ⟨e27, e28⟩ := hat i hi hg
    rw [hci] at e27 e28
    have hb := bsS_at (gp := gp) (mn := mn) hi hg
    rw [hci] at hb
    have hbp := hpos i hi hg
    have hble : cnt mn i ≤ i := cnt_le _ _
    have hq3 : q < 3 := by omega
    have hi12 : i < 12 := by omega
    have hdiv : c0 / prF (bsS gp mn n) q < 2147483648 := Nat.lt_of_le_of_lt (Nat.div_le_self _ _) hc0
    have hr : c0 / prF (bsS gp mn n) q % cnt mn i < cnt mn n := Nat.lt_of_lt_of_le (Nat.mod_lt _ hbp) (cnt_mono mn (by omega))
    obtain ⟨hs1, hs2, hs3⟩ := selP_ok hr
    have e29 := hmen _ hs1 hs2
    rw [hs3] at e29
    have hr12 : c0 / prF (bsS gp mn n) q % cnt mn i < 12 := by have := cnt_le mn n; omega
    have hb0 : ¬ nI (cnt mn i) = 0 := nI_ne0 hbp (by omega)
    have em := emax hbp (by omega)
    have er : nI (c0 / prF (bsS gp mn n) q) - nI (c0 / prF (bsS gp mn n) q / cnt mn i) * nI (cnt mn i) = nI (c0 / prF (bsS gp mn n) q % cnt mn i) := ni_r hdiv hbp (by omega)
    have edv : c0 / prF (bsS gp mn n) q / cnt mn i = c0 / prF (bsS gp mn n) (q + 1) := by
      rw [Nat.div_div_eq_div_mul, prF_s, hb]
    have emn : mnS gp mn n c0 q = selP mn (c0 / prF (bsS gp mn n) q % cnt mn i) n := by
      unfold mnS; rw [hb]
    obtain ⟨σ', g1, g2, g3, g4⟩ := ih (q + 1) (.int (nI (cnt mn i))) (am_up σ 30 i (nI (mnS gp mn n c0 q))) (by omega) rfl (by rw [am_up_ne (by decide)]; exact hqs) (fun j hj h => by rw [am_up_ne (by decide), am_up_ne (by decide)]; exact hat j hj h) (fun j hj h => by rw [am_up_ne (by decide)]; exact hmen j hj h)
    refine ⟨σ', ?_, fun a h1 => by rw [g2 a h1, am_up_ne h1], fun j hj hgj => ?_, fun j hj hgj => ?_⟩
    · rw [← g1, r22_4, ← edv, emn]
      simp (disch := first | assumption | omega | rfl | exact Nat.le_of_ble_eq_true rfl | decide) only [r22_0, r22_1, r22_2, r22_3, r22_5, r22_6, r22_9, r22_12, r22_13, r22_14, r22_17, r22_18, r22_19, r22_22, r22_24, r22_25, r22_28, r22_29, r22_32, r22_33, r22_34, r22_35, r22_38, r22_39, r22_41, r22_42, r22_43, r22_44, r22_45, r22_47, r22_48, r22_49, r22_52, r22_55, am_gf_25_2, am_gf_25_3, am_gf_25_4, am_gf_25_5, am_gf_25_6, am_ai_27, am_ai_28, am_ai_29, am_ai_30, am_nl_i, am_nl_r, am_nl_n, am_nl_l, Option.bind_some, Option.toList_some, Option.toList_none, List.cons_append, List.nil_append, if_true, if_false, Bool.false_eq_true, Int.reduceEq, Int.reduceAdd, ↓reduceIte, hqs, ni_le, hc, e28, em, e27, hb0, ni_d, er, e29, nI_1, hv]
    · rw [g3 j hj hgj, am_up_eq]
      by_cases h1 : q + 1 ≤ cnt gp j
      · rw [if_pos h1, if_pos (by omega)]
      · rw [if_neg h1]
        by_cases h2 : cnt gp j = q
        · have : j = i := by
            rcases Nat.lt_trichotomy j i with h | h | h
            · have := cnt_lt h hgj; omega
            · exact h
            · have := cnt_lt h hg; omega
          subst this
          rw [pk_us, if_pos (by omega), h2]
        · rw [pk_un (by intro e; subst e; omega), if_neg (by omega)]
    · rw [g4 j hj hgj, am_up_eq, pk_un (by intro e; subst e; rw [hg] at hgj; cases hgj)]
theorem c_fillGaps {d n c0 G : Nat} {σ : am_St} {τ : Int64} {gp mn : Nat → Bool} (h12 : n ≤ 12) (hG : G = cnt gp n) (h3 : G ≤ 3) (hpos : ∀ i, i < n → gp i = true → 0 < cnt mn i) (hc0 : c0 < 2147483648) (hqs : σ 25 2 = nI G) (hat : ∀ j, j < n → gp j = true → σ 27 (cnt gp j) = nI j ∧ σ 28 (cnt gp j) = nI (cnt mn j)) (hmen : ∀ j, j < n → mn j = true → σ 29 (cnt mn j) = nI j) :
    ∃ σ' : am_St, am_call d 22 [.ref 25, .int (nI c0)] σ τ = some (none, σ', τ) ∧ (∀ a, a ≠ 30 → σ' a = σ a) ∧ (∀ j, j < n → gp j = true → σ' 30 j = nI (mnS gp mn n c0 (cnt gp j))) ∧ ∀ j, j < n → gp j = false → σ' 30 j = σ 30 j := by
  obtain ⟨σ', g1, g2, g3, g4⟩ := c_fillGaps_loop (d := d) (τ := τ) (v1 := .int (nI c0)) rfl h12 hG h3 hpos hc0 G 0 .null σ (by omega) rfl hqs hat hmen
  refine ⟨σ', ?_, g2, fun j hj hg => by rw [g3 j hj hg, if_pos (by omega)], g4⟩
  show am_run d 22 0 [.ref 25, .int (nI c0), .null, .null, .null] [] σ τ = _
  rw [show c0 / prF (bsS gp mn n) 0 = c0 from Nat.div_one c0] at g1
  simp (disch := first | assumption | omega | rfl | exact Nat.le_of_ble_eq_true rfl | decide) only [r22_0, r22_1, r22_2, r22_3, r22_5, r22_6, r22_9, r22_12, r22_13, r22_14, r22_17, r22_18, r22_19, r22_22, r22_24, r22_25, r22_28, r22_29, r22_32, r22_33, r22_34, r22_35, r22_38, r22_39, r22_41, r22_42, r22_43, r22_44, r22_45, r22_47, r22_48, r22_49, r22_52, r22_55, am_gf_25_2, am_gf_25_3, am_gf_25_4, am_gf_25_5, am_gf_25_6, am_ai_27, am_ai_28, am_ai_29, am_ai_30, am_nl_i, am_nl_r, am_nl_n, am_nl_l, Option.bind_some, Option.toList_some, Option.toList_none, List.cons_append, List.nil_append, if_true, if_false, Bool.false_eq_true, Int.reduceEq, Int.reduceAdd, ↓reduceIte]
  exact g1
theorem c_noteWay_loop {d n w : Nat} {τ : Int64} {F C : Nat → Int32} (h12 : n ≤ 12) (hw : w < 100000) : ∀ k i (σ : am_St), i + k = n → σ 4 0 = nI n → σ 25 0 = nI w → (∀ j, j < n → σ 30 j = F j) → (∀ j, j < n → σ 26 j = if j < i then (if w = 0 then F j else if C j = F j then C j else -1) else C j) →
    ∃ σ' : am_St, am_run d 23 2 [.ref 25, .int (nI i)] [] σ τ = some (none, σ', τ) ∧ (∀ a, a ≠ 25 → a ≠ 26 → σ' a = σ a) ∧ (∀ j, j ≠ 0 → σ' 25 j = σ 25 j) ∧ σ' 25 0 = nI (w + 1) ∧ ∀ j, j < n → σ' 26 j = if w = 0 then F j else if C j = F j then C j else -1 := by
  intro k
  induction k with
  | zero =>
    intro i σ hi hn hf hF hC
    have e : i = n := by omega
    subst e
    refine ⟨am_up σ 25 0 (nI (w + 1)), ?_, fun a x y => by rw [am_up_ne x], fun j hj => by rw [am_up_eq, pk_un hj], by rw [am_up_eq, pk_us], fun j hj => by rw [am_up_ne (by decide), hC j hj, if_pos hj]⟩
    rw [r23_2]
    simp (disch := first | assumption | omega | rfl | exact Nat.le_of_ble_eq_true rfl | decide) only [r23_0, r23_1, r23_3, r23_4, r23_7, r23_10, r23_13, r23_14, r23_17, r23_20, r23_21, r23_24, r23_25, r23_26, r23_29, r23_30, r23_31, r23_32, r23_35, r23_36, r23_39, r23_40, r23_41, r23_42, r23_45, r23_46, r23_47, r23_50, r23_51, r23_54, r23_55, r23_56, r23_57, r23_60, r23_63, r23_64, r23_64i, r23_65, r23_68, r23_69, r23_70, r23_73, am_gf_4_0, am_gf_25_0, am_gf_25_1, am_gf_25_6, am_gf_25_7, am_pf_25_0, am_ai_26, am_ai_30, am_nl_i, am_nl_r, am_nl_n, am_nl_l, Option.bind_some, Option.toList_some, Option.toList_none, List.cons_append, List.nil_append, if_true, if_false, Bool.false_eq_true, Int.reduceEq, Int.reduceAdd, ↓reduceIte, hn, i_rf, hf, nI_1]
  | succ k ih =>
    intro i σ hi hn hf hF hC
    have hc : ¬ n ≤ i := by omega
    have hi12 : i < 12 := by omega
    have hCi := hC i (by omega)
    rw [if_neg (by omega)] at hCi
    have hFi := hF i (by omega)
    -- the step, where something is put
    have step : ∀ x : Int32, x = (if w = 0 then F i else if C i = F i then C i else -1) → ∃ σ' : am_St, am_run d 23 2 [.ref 25, .int (nI (i + 1))] [] (am_up σ 26 i x) τ = some (none, σ', τ) ∧ (∀ a, a ≠ 25 → a ≠ 26 → σ' a = σ a) ∧ (∀ j, j ≠ 0 → σ' 25 j = σ 25 j) ∧ σ' 25 0 = nI (w + 1) ∧ ∀ j, j < n → σ' 26 j = if w = 0 then F j else if C j = F j then C j else -1 := by
      intro x hx
      obtain ⟨σ', g1, g2, g3, g4⟩ := ih (i + 1) (am_up σ 26 i x) (by omega) (by rw [am_up_ne (by decide)]; exact hn) (by rw [am_up_ne (by decide)]; exact hf) (fun j hj => by rw [am_up_ne (by decide)]; exact hF j hj) (fun j hj => by
        rw [am_up_eq]
        by_cases h : j = i
        · subst h; rw [pk_us, if_pos (by omega), hx]
        · rw [pk_un h, hC j hj]
          by_cases h2 : j < i
          · rw [if_pos h2, if_pos (show j < i + 1 by omega)]
          · rw [if_neg h2, if_neg (show ¬ j < i + 1 by omega)])
      exact ⟨σ', g1, fun a x y => by rw [g2 a x y, am_up_ne y], fun j hj => by rw [g3 j hj, am_up_ne (by decide)], g4⟩
    by_cases hw0 : w = 0
    · obtain ⟨σ', g1, g2⟩ := step (F i) (by rw [if_pos hw0])
      refine ⟨σ', ?_, g2⟩
      rw [← g1, r23_2]
      subst hw0
      have e : nI 0 = 0 := rfl
      simp (disch := first | assumption | omega | rfl | exact Nat.le_of_ble_eq_true rfl | decide) only [r23_0, r23_1, r23_3, r23_4, r23_7, r23_10, r23_13, r23_14, r23_17, r23_20, r23_21, r23_24, r23_25, r23_26, r23_29, r23_30, r23_31, r23_32, r23_35, r23_36, r23_39, r23_40, r23_41, r23_42, r23_45, r23_46, r23_47, r23_50, r23_51, r23_54, r23_55, r23_56, r23_57, r23_60, r23_63, r23_64, r23_64i, r23_65, r23_68, r23_69, r23_70, r23_73, am_gf_4_0, am_gf_25_0, am_gf_25_1, am_gf_25_6, am_gf_25_7, am_pf_25_0, am_ai_26, am_ai_30, am_nl_i, am_nl_r, am_nl_n, am_nl_l, Option.bind_some, Option.toList_some, Option.toList_none, List.cons_append, List.nil_append, if_true, if_false, Bool.false_eq_true, Int.reduceEq, Int.reduceAdd, ↓reduceIte, hn, ni_le, hc, hf, e, hFi, nI_1]
    · have e : ¬ nI w = 0 := nI_ne0 (by omega) (by omega)
      by_cases hcf : C i = F i
      · obtain ⟨σ', g1, g2⟩ := ih (i + 1) σ (by omega) hn hf hF (fun j hj => by
          rw [hC j hj]
          by_cases h : j = i
          · subst h; rw [if_neg (by omega), if_pos (by omega), if_neg hw0, if_pos hcf]
          · by_cases h2 : j < i
            · rw [if_pos h2, if_pos (show j < i + 1 by omega)]
            · rw [if_neg h2, if_neg (show ¬ j < i + 1 by omega)])
        refine ⟨σ', ?_, g2⟩
        rw [← g1, r23_2]
        simp (disch := first | assumption | omega | rfl | exact Nat.le_of_ble_eq_true rfl | decide) only [r23_0, r23_1, r23_3, r23_4, r23_7, r23_10, r23_13, r23_14, r23_17, r23_20, r23_21, r23_24, r23_25, r23_26, r23_29, r23_30, r23_31, r23_32, r23_35, r23_36, r23_39, r23_40, r23_41, r23_42, r23_45, r23_46, r23_47, r23_50, r23_51, r23_54, r23_55, r23_56, r23_57, r23_60, r23_63, r23_64, r23_64i, r23_65, r23_68, r23_69, r23_70, r23_73, am_gf_4_0, am_gf_25_0, am_gf_25_1, am_gf_25_6, am_gf_25_7, am_pf_25_0, am_ai_26, am_ai_30, am_nl_i, am_nl_r, am_nl_n, am_nl_l, Option.bind_some, Option.toList_some, Option.toList_none, List.cons_append, List.nil_append, if_true, if_false, Bool.false_eq_true, Int.reduceEq, Int.reduceAdd, ↓reduceIte, hn, ni_le, hc, hf, e, hFi, hCi, hcf, nI_1]
      · obtain ⟨σ', g1, g2⟩ := step (-1) (by rw [if_neg hw0, if_neg hcf])
        refine ⟨σ', ?_, g2⟩
        rw [← g1, r23_2]
        simp (disch := first | assumption | omega | rfl | exact Nat.le_of_ble_eq_true rfl | decide) only [r23_0, r23_1, r23_3, r23_4, r23_7, r23_10, r23_13, r23_14, r23_17, r23_20, r23_21, r23_24, r23_25, r23_26, r23_29, r23_30, r23_31, r23_32, r23_35, r23_36, r23_39, r23_40, r23_41, r23_42, r23_45, r23_46, r23_47, r23_50, r23_51, r23_54, r23_55, r23_56, r23_57, r23_60, r23_63, r23_64, r23_64i, r23_65, r23_68, r23_69, r23_70, r23_73, am_gf_4_0, am_gf_25_0, am_gf_25_1, am_gf_25_6, am_gf_25_7, am_pf_25_0, am_ai_26, am_ai_30, am_nl_i, am_nl_r, am_nl_n, am_nl_l, Option.bind_some, Option.toList_some, Option.toList_none, List.cons_append, List.nil_append, if_true, if_false, Bool.false_eq_true, Int.reduceEq, Int.reduceAdd, ↓reduceIte, hn, ni_le, hc, hf, e, hFi, hCi, hcf, nI_1]
theorem c_noteWay {d n w : Nat} {σ : am_St} {τ : Int64} {F C : Nat → Int32} (h12 : n ≤ 12) (hw : w < 100000) (hn : σ 4 0 = nI n) (hf : σ 25 0 = nI w) (hF : ∀ j, j < n → σ 30 j = F j) (hC : ∀ j, j < n → σ 26 j = C j) : ∃ σ' : am_St, am_call d 23 [.ref 25] σ τ = some (none, σ', τ) ∧ (∀ a, a ≠ 25 → a ≠ 26 → σ' a = σ a) ∧ (∀ j, j ≠ 0 → σ' 25 j = σ 25 j) ∧ σ' 25 0 = nI (w + 1) ∧ ∀ j, j < n → σ' 26 j = if w = 0 then F j else if C j = F j then C j else -1 := by
  obtain ⟨σ', g1, g2⟩ := c_noteWay_loop (d := d) (τ := τ) (F := F) (C := C) h12 hw n 0 σ (by omega) hn hf hF (fun j hj => by rw [if_neg (by omega)]; exact hC j hj)
  refine ⟨σ', ?_, g2⟩
  show am_run d 23 0 [.ref 25, .null] [] σ τ = _
  simp (disch := first | assumption | omega | rfl | exact Nat.le_of_ble_eq_true rfl | decide) only [r23_0, r23_1, r23_3, r23_4, r23_7, r23_10, r23_13, r23_14, r23_17, r23_20, r23_21, r23_24, r23_25, r23_26, r23_29, r23_30, r23_31, r23_32, r23_35, r23_36, r23_39, r23_40, r23_41, r23_42, r23_45, r23_46, r23_47, r23_50, r23_51, r23_54, r23_55, r23_56, r23_57, r23_60, r23_63, r23_64, r23_64i, r23_65, r23_68, r23_69, r23_70, r23_73, am_gf_4_0, am_gf_25_0, am_gf_25_1, am_gf_25_6, am_gf_25_7, am_pf_25_0, am_ai_26, am_ai_30, am_nl_i, am_nl_r, am_nl_n, am_nl_l, Option.bind_some, Option.toList_some, Option.toList_none, List.cons_append, List.nil_append, if_true, if_false, Bool.false_eq_true, Int.reduceEq, Int.reduceAdd, ↓reduceIte]
  exact g1
/-- who is certain, after c codes -/
def crF (B : Nat → Bool) (x : Nat → Int32) : Nat → Int32
  | 0 => -1
  | c + 1 => if B c = true then (if cnt B c = 0 then x c else if crF B x c = x c then crF B x c else -1) else crF B x c
theorem crF_s (B : Nat → Bool) (x : Nat → Int32) (c : Nat) : crF B x (c + 1) = if B c = true then (if cnt B c = 0 then x c else if crF B x c = x c then crF B x c else -1) else crF B x c := rfl
/-- the fathers that a code tells -/
def fcS (gp mn : Nat → Bool) (f : Nat → Nat) (n c i : Nat) : Nat := if gp i = true then mnS gp mn n c (cnt gp i) else f i
def encS (al : Nat → Bool) (f : Nat → Nat) (i : Nat) : Int32 := if al i = true then -1 else nI (f i)
/-- by the fathers that a code tells nothing is wrong -/
def wyB (n : Nat) (kd tl wr : Nat → Int32) (al gp mn : Nat → Bool) (f g : Nat → Nat) (lw : Nat → Int32) (c : Nat) : Bool := decide (ff (wrB (nmS kd tl al (fcS gp mn f n c) g lw n) wr) n 0 = -1)
theorem c_gsearch_init {d n : Nat} {τ : Int64} {F : Nat → Int32} {v2 : Value} (hv : am_nl v2 = v2) (h12 : n ≤ 12) : ∀ k i (σ : am_St), i + k = n → σ 4 0 = nI n → (∀ j, j < n → σ 7 j = F j) → (∀ j, j < i → σ 30 j = F j ∧ σ 26 j = -1) →
    ∃ σ' : am_St, am_run d 20 12 [.ref 25, .ref 3, v2, .int (nI i)] [] σ τ = am_run d 20 51 [.ref 25, .ref 3, v2, .int (nI n)] [] σ' τ ∧ (∀ a, a ≠ 26 → a ≠ 30 → σ' a = σ a) ∧ ∀ j, j < n → σ' 30 j = F j ∧ σ' 26 j = -1 := by
  intro k
  induction k with
  | zero =>
    intro i σ hi hn hF hC
    have e : i = n := by omega
    subst e
    refine ⟨σ, ?_, fun _ _ _ => rfl, hC⟩
    rw [r20_12]
    simp (disch := first | assumption | omega | rfl | exact Nat.le_of_ble_eq_true rfl | decide) only [r20_0, r20_1, r20_4, r20_5, r20_6, r20_7, r20_10, r20_11, r20_13, r20_14, r20_17, r20_20, r20_23, r20_24, r20_27, r20_28, r20_29, r20_32, r20_35, r20_36, r20_37, r20_38, r20_39, r20_42, r20_43, r20_44, r20_45, r20_48, r20_52, r20_53, r20_54, r20_55, r20_58, r20_59, r20_60, r20_63, r20_64, r20_67, r20_68, r20_71, r20_72, r20_75, r20_78, r20_79, r20_82, r20_83, r20_86, r20_89, r20_90, r20_93, r20_94, r20_97, r20_100, r20_103, am_gf_4_0, am_gf_4_3, am_gf_4_7, am_gf_25_1, am_gf_25_6, am_gf_25_7, am_gf_25_8, am_pf_25_0, am_ai_7, am_ai_11, am_ai_26, am_ai_30, am_nl_i, am_nl_r, am_nl_n, am_nl_l, Option.bind_some, Option.toList_some, Option.toList_none, List.cons_append, List.nil_append, if_true, if_false, Bool.false_eq_true, Int.reduceEq, Int.reduceAdd, ↓reduceIte, hn, i_rf]
  | succ k ih =>
    intro i σ hi hn hF hC
    have hc : ¬ n ≤ i := by omega
    have hi12 : i < 12 := by omega
    obtain ⟨σ', g1, g2, g3⟩ := ih (i + 1) (am_up (am_up σ 30 i (F i)) 26 i (-1)) (by omega) (by rw [am_up_ne (by decide), am_up_ne (by decide)]; exact hn) (fun j hj => by rw [am_up_ne (by decide), am_up_ne (by decide)]; exact hF j hj) (fun j hj => by
      rw [am_up_ne (by decide), am_up_eq, am_up_eq, am_up_ne (by decide)]
      by_cases h : j = i
      · subst h; rw [pk_us, pk_us]; exact ⟨rfl, rfl⟩
      · rw [pk_un h, pk_un h]; exact hC j (by omega))
    refine ⟨σ', ?_, fun a x y => by rw [g2 a x y, am_up_ne x, am_up_ne y], g3⟩
    rw [← g1, r20_12]
    simp (disch := first | assumption | omega | rfl | exact Nat.le_of_ble_eq_true rfl | decide) only [r20_0, r20_1, r20_4, r20_5, r20_6, r20_7, r20_10, r20_11, r20_13, r20_14, r20_17, r20_20, r20_23, r20_24, r20_27, r20_28, r20_29, r20_32, r20_35, r20_36, r20_37, r20_38, r20_39, r20_42, r20_43, r20_44, r20_45, r20_48, r20_52, r20_53, r20_54, r20_55, r20_58, r20_59, r20_60, r20_63, r20_64, r20_67, r20_68, r20_71, r20_72, r20_75, r20_78, r20_79, r20_82, r20_83, r20_86, r20_89, r20_90, r20_93, r20_94, r20_97, r20_100, r20_103, am_gf_4_0, am_gf_4_3, am_gf_4_7, am_gf_25_1, am_gf_25_6, am_gf_25_7, am_gf_25_8, am_pf_25_0, am_ai_7, am_ai_11, am_ai_26, am_ai_30, am_nl_i, am_nl_r, am_nl_n, am_nl_l, Option.bind_some, Option.toList_some, Option.toList_none, List.cons_append, List.nil_append, if_true, if_false, Bool.false_eq_true, Int.reduceEq, Int.reduceAdd, ↓reduceIte, hn, ni_le, hc, hF i (by omega), nI_1, hv]
theorem c_gsearch_loop {d n G T : Nat} {τ : Int64} {kd tl wr : Nat → Int32} {al gp mn : Nat → Bool} {f g : Nat → Nat} {lw : Nat → Int32} (h12 : n ≤ 12) (hG : G = cnt gp n) (h3 : G ≤ 3) (hpos : ∀ i, i < n → gp i = true → 0 < cnt mn i) (hT : T = prF (bsS gp mn n) G) (hga : ∀ i, i < n → gp i = true → al i = false) (hfg : ∀ i, i < n → al i = false → f i < i ∧ g i < i) :
    ∀ k c (σ : am_St), c + k = T → σ 4 0 = nI n → (∀ j, j < n → σ 8 j = encS al g j) → (∀ j, j < n → σ 5 j = kd j ∧ σ 11 j = tl j) → (∀ j, j < n → σ 12 j = wr j) → (∀ j, j < 4 → σ 3 j = lw j) → σ 25 2 = nI G → (∀ j, j < n → gp j = true → σ 27 (cnt gp j) = nI j ∧ σ 28 (cnt gp j) = nI (cnt mn j)) → (∀ j, j < n → mn j = true → σ 29 (cnt mn j) = nI j) → (∀ j, j < n → gp j = false → σ 30 j = encS al f j) → σ 25 0 = nI (cnt (wyB n kd tl wr al gp mn f g lw) c) → (∀ j, j < n → σ 26 j = crF (wyB n kd tl wr al gp mn f g lw) (fun c => encS al (fcS gp mn f n c) j) c) →
    ∃ σ' : am_St, am_run (d + 4) 20 53 [.ref 25, .ref 3, .int (nI T), .int (nI c)] [] σ τ = some (none, σ', τ) ∧ (∀ a, a ≠ 19 → a ≠ 20 → a ≠ 25 → a ≠ 26 → a ≠ 30 → σ' a = σ a) ∧ σ' 25 0 = nI (cnt (wyB n kd tl wr al gp mn f g lw) T) ∧ ∀ j, j < n → σ' 26 j = crF (wyB n kd tl wr al gp mn f g lw) (fun c => encS al (fcS gp mn f n c) j) T := by
  intro k
  have hTl : T ≤ 1728 := by rw [hT]; exact prF_le (bsS_le h12) G h3
  induction k with
  | zero =>
    intro c σ hc hn hM hkt hw hlw hqs hat hmen hF0 hfo hcr
    have e : c = T := by omega
    subst e
    refine ⟨σ, ?_, fun _ _ _ _ _ _ => rfl, hfo, hcr⟩
    rw [r20_53]
    simp (disch := first | assumption | omega | rfl | exact Nat.le_of_ble_eq_true rfl | decide) only [r20_0, r20_1, r20_4, r20_5, r20_6, r20_7, r20_10, r20_11, r20_12, r20_13, r20_14, r20_17, r20_20, r20_23, r20_24, r20_27, r20_28, r20_29, r20_32, r20_35, r20_36, r20_37, r20_38, r20_39, r20_42, r20_43, r20_44, r20_45, r20_48, r20_51, r20_52, r20_54, r20_55, r20_58, r20_59, r20_60, r20_63, r20_64, r20_67, r20_68, r20_71, r20_72, r20_75, r20_78, r20_79, r20_82, r20_83, r20_86, r20_89, r20_90, r20_93, r20_94, r20_97, r20_100, r20_103, am_gf_4_0, am_gf_4_3, am_gf_4_7, am_gf_25_1, am_gf_25_6, am_gf_25_7, am_gf_25_8, am_pf_25_0, am_ai_7, am_ai_11, am_ai_26, am_ai_30, am_nl_i, am_nl_r, am_nl_n, am_nl_l, Option.bind_some, Option.toList_some, Option.toList_none, List.cons_append, List.nil_append, if_true, if_false, Bool.false_eq_true, Int.reduceEq, Int.reduceAdd, ↓reduceIte, i_rf]
  | succ k ih =>
    intro c σ hc hn hM hkt hw hlw hqs hat hmen hF0 hfo hcr
    have hc6 : ¬ T ≤ c := by omega
    have hlc := cnt_le (wyB n kd tl wr al gp mn f g lw) c
    obtain ⟨σ1, a1, a2, a3, a4⟩ := c_fillGaps (d := d + 3) (τ := τ) (c0 := c) h12 hG h3 hpos (by omega) hqs hat hmen
    have hF1 : ∀ j, j < n → σ1 30 j = encS al (fcS gp mn f n c) j := by
      intro j hj
      unfold encS fcS
      cases hg : gp j with
      | true =>
        rw [a3 j hj hg, hga j hj hg]
        rfl
      | false =>
        rw [a4 j hj hg, hF0 j hj hg]
        rfl
    have hfc : ∀ i, i < n → al i = false → fcS gp mn f n c i < i := by
      intro i hi ha
      unfold fcS
      split
      · rename_i hg
        unfold mnS
        have hb := bsS_at (gp := gp) (mn := mn) hi hg
        rw [hb]
        have hr : c / prF (bsS gp mn n) (cnt gp i) % cnt mn i < cnt mn i := Nat.mod_lt _ (hpos i hi hg)
        obtain ⟨j, h1, h2, h3⟩ := cnt_sel hr
        have := selP_at (P := mn) (n := n) (show j < n by omega) h2
        rw [h3] at this
        rw [this]
        exact h1
      · exact (hfg i hi ha).1
    have hP1 : PH n al (fcS gp mn f n c) g (σ1 30) (σ1 8) := by
      intro i hi
      rw [hF1 i hi, a2 8 (by decide), hM i hi]
      unfold encS
      refine ⟨fun ha => by rw [if_pos ha]; exact ⟨rfl, by rw [if_pos ha]⟩, fun ha => ?_⟩
      rw [if_neg (by rw [ha]; decide), if_neg (by rw [ha]; decide)]
      exact ⟨rfl, rfl, hfc i hi ha, (hfg i hi ha).2⟩
    obtain ⟨σ2, b1, b2, b3⟩ := c_give (d := d) (σ := σ1) (τ := τ) (n := n) (kd := kd) (tl := tl) (al := al) (f := fcS gp mn f n c) (g := g) (lw := lw) NO_18 (fc := 30) (tc := 11) (lc := 3) rfl rfl rfl h12 (by intro c h; omega) (by rw [a2 4 (by decide)]; exact hn) hP1 (fun j hj => by rw [a2 5 (by decide), a2 11 (by decide)]; exact hkt j hj) (fun j hj => by rw [a2 3 (by decide)]; exact hlw j hj)
    have k2 : ∀ a, a ≠ 19 → a ≠ 20 → a ≠ 30 → σ2 a = σ a := fun a x y z => by rw [b2 a x y, a2 a z]
    have hn2 : σ2 4 0 = nI n := by rw [k2 4 (by decide) (by decide) (by decide)]; exact hn
    have hfe : ff (wrB (σ2 19) (σ2 12)) n 0 = ff (wrB (nmS kd tl al (fcS gp mn f n c) g lw n) wr) n 0 := by
      apply ff_congr
      intro j _ hj
      unfold wrB
      rw [b3 j (by omega), k2 12 (by decide) (by decide) (by decide), hw j (by omega)]
    have her : am_call (d + 3) 43 [.ref 18] σ2 τ = some (some (.int (ff (wrB (nmS kd tl al (fcS gp mn f n c) g lw n) wr) n 0)), σ2, τ) := by
      rw [c_firstError (d := d + 2) NO_18 hn2 h12, hfe]
    have h25 : σ2 25 0 = nI (cnt (wyB n kd tl wr al gp mn f g lw) c) := by rw [k2 25 (by decide) (by decide) (by decide)]; exact hfo
    cases hB : wyB n kd tl wr al gp mn f g lw c with
    | true =>
      have hs : cnt (wyB n kd tl wr al gp mn f g lw) (c + 1) = cnt (wyB n kd tl wr al gp mn f g lw) c + 1 := by rw [cnt_s, if_pos hB]
      obtain ⟨σ3, c1, c2, c3, c4, c5⟩ := c_noteWay (d := d + 3) (τ := τ) (σ := σ2) (F := encS al (fcS gp mn f n c)) (C := fun j => crF (wyB n kd tl wr al gp mn f g lw) (fun c => encS al (fcS gp mn f n c) j) c) h12 (by omega) hn2 h25 (fun j hj => by rw [b2 30 (by decide) (by decide)]; exact hF1 j hj) (fun j hj => by rw [k2 26 (by decide) (by decide) (by decide)]; exact hcr j hj)
      have k3 : ∀ a, a ≠ 19 → a ≠ 20 → a ≠ 25 → a ≠ 26 → a ≠ 30 → σ3 a = σ a := fun a x y z w v => by rw [c2 a z w, k2 a x y v]
      obtain ⟨σ', g1, g2, g3⟩ := ih (c + 1) σ3 (by omega) (by rw [k3 4 (by decide) (by decide) (by decide) (by decide) (by decide)]; exact hn) (fun j hj => by rw [k3 8 (by decide) (by decide) (by decide) (by decide) (by decide)]; exact hM j hj) (fun j hj => by rw [k3 5 (by decide) (by decide) (by decide) (by decide) (by decide), k3 11 (by decide) (by decide) (by decide) (by decide) (by decide)]; exact hkt j hj) (fun j hj => by rw [k3 12 (by decide) (by decide) (by decide) (by decide) (by decide)]; exact hw j hj) (fun j hj => by rw [k3 3 (by decide) (by decide) (by decide) (by decide) (by decide)]; exact hlw j hj) (by rw [c3 2 (by decide), k2 25 (by decide) (by decide) (by decide)]; exact hqs) (fun j hj h => by rw [k3 27 (by decide) (by decide) (by decide) (by decide) (by decide), k3 28 (by decide) (by decide) (by decide) (by decide) (by decide)]; exact hat j hj h) (fun j hj h => by rw [k3 29 (by decide) (by decide) (by decide) (by decide) (by decide)]; exact hmen j hj h) (fun j hj h => by rw [c2 30 (by decide) (by decide), b2 30 (by decide) (by decide), a4 j hj h]; exact hF0 j hj h) (by rw [hs]; exact c4) (fun j hj => by rw [c5 j hj, crF_s, if_pos hB])
      refine ⟨σ', ?_, fun a x y z w v => by rw [g2 a x y z w v, k3 a x y z w v], g3⟩
      rw [← g1, r20_53]
      have hb := of_decide_eq_true hB
      simp (disch := first | assumption | omega | rfl | exact Nat.le_of_ble_eq_true rfl | decide) only [r20_0, r20_1, r20_4, r20_5, r20_6, r20_7, r20_10, r20_11, r20_12, r20_13, r20_14, r20_17, r20_20, r20_23, r20_24, r20_27, r20_28, r20_29, r20_32, r20_35, r20_36, r20_37, r20_38, r20_39, r20_42, r20_43, r20_44, r20_45, r20_48, r20_51, r20_52, r20_54, r20_55, r20_58, r20_59, r20_60, r20_63, r20_64, r20_67, r20_68, r20_71, r20_72, r20_75, r20_78, r20_79, r20_82, r20_83, r20_86, r20_89, r20_90, r20_93, r20_94, r20_97, r20_100, r20_103, am_gf_4_0, am_gf_4_3, am_gf_4_7, am_gf_25_1, am_gf_25_6, am_gf_25_7, am_gf_25_8, am_pf_25_0, am_ai_7, am_ai_11, am_ai_26, am_ai_30, am_nl_i, am_nl_r, am_nl_n, am_nl_l, Option.bind_some, Option.toList_some, Option.toList_none, List.cons_append, List.nil_append, if_true, if_false, Bool.false_eq_true, Int.reduceEq, Int.reduceAdd, ↓reduceIte, ni_le, hc6, a1, b1, her, hb, c1, nI_1]
    | false =>
      have hs : cnt (wyB n kd tl wr al gp mn f g lw) (c + 1) = cnt (wyB n kd tl wr al gp mn f g lw) c := by rw [cnt_s, if_neg (by rw [hB]; decide)]; rfl
      obtain ⟨σ', g1, g2, g3⟩ := ih (c + 1) σ2 (by omega) hn2 (fun j hj => by rw [k2 8 (by decide) (by decide) (by decide)]; exact hM j hj) (fun j hj => by rw [k2 5 (by decide) (by decide) (by decide), k2 11 (by decide) (by decide) (by decide)]; exact hkt j hj) (fun j hj => by rw [k2 12 (by decide) (by decide) (by decide)]; exact hw j hj) (fun j hj => by rw [k2 3 (by decide) (by decide) (by decide)]; exact hlw j hj) (by rw [k2 25 (by decide) (by decide) (by decide)]; exact hqs) (fun j hj h => by rw [k2 27 (by decide) (by decide) (by decide), k2 28 (by decide) (by decide) (by decide)]; exact hat j hj h) (fun j hj h => by rw [k2 29 (by decide) (by decide) (by decide)]; exact hmen j hj h) (fun j hj h => by rw [b2 30 (by decide) (by decide), a4 j hj h]; exact hF0 j hj h) (by rw [hs]; exact h25) (fun j hj => by rw [crF_s, if_neg (by rw [hB]; decide), k2 26 (by decide) (by decide) (by decide)]; exact hcr j hj)
      refine ⟨σ', ?_, fun a x y z w v => by rw [g2 a x y z w v, k2 a x y v], g3⟩
      rw [← g1, r20_53]
      have hb := of_decide_eq_false hB
      simp (disch := first | assumption | omega | rfl | exact Nat.le_of_ble_eq_true rfl | decide) only [r20_0, r20_1, r20_4, r20_5, r20_6, r20_7, r20_10, r20_11, r20_12, r20_13, r20_14, r20_17, r20_20, r20_23, r20_24, r20_27, r20_28, r20_29, r20_32, r20_35, r20_36, r20_37, r20_38, r20_39, r20_42, r20_43, r20_44, r20_45, r20_48, r20_51, r20_52, r20_54, r20_55, r20_58, r20_59, r20_60, r20_63, r20_64, r20_67, r20_68, r20_71, r20_72, r20_75, r20_78, r20_79, r20_82, r20_83, r20_86, r20_89, r20_90, r20_93, r20_94, r20_97, r20_100, r20_103, am_gf_4_0, am_gf_4_3, am_gf_4_7, am_gf_25_1, am_gf_25_6, am_gf_25_7, am_gf_25_8, am_pf_25_0, am_ai_7, am_ai_11, am_ai_26, am_ai_30, am_nl_i, am_nl_r, am_nl_n, am_nl_l, Option.bind_some, Option.toList_some, Option.toList_none, List.cons_append, List.nil_append, if_true, if_false, Bool.false_eq_true, Int.reduceEq, Int.reduceAdd, ↓reduceIte, ni_le, hc6, a1, b1, her, hb, nI_1]
/-- ways, and who is sure -/
theorem c_gsearch {d n G : Nat} {σ : am_St} {τ : Int64} {kd tl wr : Nat → Int32} {al gp mn : Nat → Bool} {f g : Nat → Nat} {lw : Nat → Int32} (h12 : n ≤ 12) (hG : G = cnt gp n) (h3 : G ≤ 3) (hpos : ∀ i, i < n → gp i = true → 0 < cnt mn i) (hga : ∀ i, i < n → gp i = true → al i = false) (hfg : ∀ i, i < n → al i = false → f i < i ∧ g i < i) (hn : σ 4 0 = nI n) (hFM : ∀ j, j < n → σ 7 j = encS al f j ∧ σ 8 j = encS al g j) (hkt : ∀ j, j < n → σ 5 j = kd j ∧ σ 11 j = tl j) (hw : ∀ j, j < n → σ 12 j = wr j) (hlw : ∀ j, j < 4 → σ 3 j = lw j) (hgm : ∀ j, j < n → (σ 9 j = 0) = (gp j = false) ∧ (σ 6 j = 0) = (mn j = true)) :
    ∃ σ' : am_St, am_call (d + 4) 20 [.ref 25, .ref 3] σ τ = some (none, σ', τ) ∧ (∀ a, a ≠ 19 → a ≠ 20 → (a < 25 ∨ 30 < a) → σ' a = σ a) ∧ σ' 25 0 = nI (cnt (wyB n kd tl wr al gp mn f g lw) (prF (bsS gp mn n) G)) ∧ ∀ j, j < n → σ' 26 j = crF (wyB n kd tl wr al gp mn f g lw) (fun c => encS al (fcS gp mn f n c) j) (prF (bsS gp mn n) G) := by
  obtain ⟨σ1, a1, a2, a3, a4, a5⟩ := c_findGaps (d := d + 3) (τ := τ) h12 (by rw [← hG]; exact h3) hpos hn hgm
  have k1 : ∀ a, a < 25 ∨ 30 < a → am_up σ1 25 0 0 a = σ a := fun a h => by rw [am_up_ne (by omega), a2 a (by omega) (by omega) (by omega) (by omega)]
  obtain ⟨σ2, b1, b2, b3⟩ := c_gsearch_init (d := d + 4) (τ := τ) (F := encS al f) (v2 := .int (nI (prF (bsS gp mn n) (cnt gp n)))) rfl h12 n 0 (am_up σ1 25 0 0) (by omega) (by rw [k1 4 (by omega)]; exact hn) (fun j hj => by rw [k1 7 (by omega)]; exact (hFM j hj).1) (fun j hj => by omega)
  have k2 : ∀ a, a < 25 ∨ 30 < a → σ2 a = σ a := fun a h => by rw [b2 a (by omega) (by omega), k1 a h]
  have k3 : ∀ a, a = 27 ∨ a = 28 ∨ a = 29 → σ2 a = σ1 a := fun a h => by rw [b2 a (by omega) (by omega), am_up_ne (by omega)]
  obtain ⟨σ', g1, g2, g3⟩ := c_gsearch_loop (d := d) (τ := τ) (kd := kd) (tl := tl) (wr := wr) (al := al) (f := f) (g := g) (lw := lw) h12 hG h3 hpos rfl hga hfg (prF (bsS gp mn n) G) 0 σ2 (by omega) (by rw [k2 4 (by omega)]; exact hn) (fun j hj => by rw [k2 8 (by omega)]; exact (hFM j hj).2) (fun j hj => by rw [k2 5 (by omega), k2 11 (by omega)]; exact hkt j hj) (fun j hj => by rw [k2 12 (by omega)]; exact hw j hj) (fun j hj => by rw [k2 3 (by omega)]; exact hlw j hj) (by rw [b2 25 (by decide) (by decide), am_up_eq, pk_un (by decide), a3, hG]) (fun j hj h => by rw [k3 27 (by omega), k3 28 (by omega)]; exact a4 j hj h) (fun j hj h => by rw [k3 29 (by omega)]; exact a5 j hj h) (fun j hj _ => (b3 j hj).1) (by rw [b2 25 (by decide) (by decide), am_up_eq, pk_us]; rfl) (fun j hj => (b3 j hj).2)
  refine ⟨σ', ?_, fun a x y z => by rw [g2 a x y (by omega) (by omega) (by omega), k2 a z], g3⟩
  show am_run (d + 4) 20 0 [.ref 25, .ref 3, .null, .null] [] σ τ = _
  simp (disch := first | assumption | omega | rfl | exact Nat.le_of_ble_eq_true rfl | decide) only [r20_0, r20_1, r20_4, r20_5, r20_6, r20_7, r20_10, r20_11, r20_13, r20_14, r20_17, r20_20, r20_23, r20_24, r20_27, r20_28, r20_29, r20_32, r20_35, r20_36, r20_37, r20_38, r20_39, r20_42, r20_43, r20_44, r20_45, r20_48, r20_52, r20_54, r20_55, r20_58, r20_59, r20_60, r20_63, r20_64, r20_67, r20_68, r20_71, r20_72, r20_75, r20_78, r20_79, r20_82, r20_83, r20_86, r20_89, r20_90, r20_93, r20_94, r20_97, r20_100, r20_103, am_gf_4_0, am_gf_4_3, am_gf_4_7, am_gf_25_1, am_gf_25_6, am_gf_25_7, am_gf_25_8, am_pf_25_0, am_ai_7, am_ai_11, am_ai_26, am_ai_30, am_nl_i, am_nl_r, am_nl_n, am_nl_l, Option.bind_some, Option.toList_some, Option.toList_none, List.cons_append, List.nil_append, if_true, if_false, Bool.false_eq_true, Int.reduceEq, Int.reduceAdd, ↓reduceIte, a1]
  refine Eq.trans b1 ?_
  rw [← g1, hG]
  rw [r20_51]
  simp (disch := first | assumption | omega | rfl | exact Nat.le_of_ble_eq_true rfl | decide) only [r20_0, r20_1, r20_4, r20_5, r20_6, r20_7, r20_10, r20_11, r20_12, r20_13, r20_14, r20_17, r20_20, r20_23, r20_24, r20_27, r20_28, r20_29, r20_32, r20_35, r20_36, r20_37, r20_38, r20_39, r20_42, r20_43, r20_44, r20_45, r20_48, r20_51, r20_52, r20_54, r20_55, r20_58, r20_59, r20_60, r20_63, r20_64, r20_67, r20_68, r20_71, r20_72, r20_75, r20_78, r20_79, r20_82, r20_83, r20_86, r20_89, r20_90, r20_93, r20_94, r20_97, r20_100, r20_103, am_gf_4_0, am_gf_4_3, am_gf_4_7, am_gf_25_1, am_gf_25_6, am_gf_25_7, am_gf_25_8, am_pf_25_0, am_ai_7, am_ai_11, am_ai_26, am_ai_30, am_nl_i, am_nl_r, am_nl_n, am_nl_l, Option.bind_some, Option.toList_some, Option.toList_none, List.cons_append, List.nil_append, if_true, if_false, Bool.false_eq_true, Int.reduceEq, Int.reduceAdd, ↓reduceIte]
  rfl
