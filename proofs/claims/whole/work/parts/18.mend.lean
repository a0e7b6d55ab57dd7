/-! OtherName$Mending: the search -/
/-- how many entries are wrong, if those without parents are called by the digits of a code -/
def erS (n q : Nat) (kd wr : Nat → Int32) (al : Nat → Bool) (f g : Nat → Nat) (lw : Nat → Int32) (c : Nat) : Nat := cnt (wrB (nmS kd (fun j => dgS q c (cnt al j)) al f g lw n) wr) n
theorem c_mend_loop {d n q : Nat} {τ : Int64} {kd wr : Nat → Int32} {al : Nat → Bool} {f g : Nat → Nat} {lw : Nat → Int32} (h12 : n ≤ 12) (hq : q = cnt al n) (h4 : q ≤ 4) : ∀ k c (σ : am_St), c + k = six q → σ 4 0 = nI n → PH n al f g (σ 7) (σ 8) → (∀ j, j < n → σ 5 j = kd j ∧ σ 12 j = wr j) → (∀ j, j < 4 → σ 3 j = lw j) → σ 21 1 = nI q → (∀ j, j < n → al j = true → σ 22 (cnt al j) = nI j) → σ 21 0 = nI (mdF (erS n q kd wr al f g lw) 13 c).1 → (0 < c → ∀ j, j < q → σ 23 j = dgS q (mdF (erS n q kd wr al f g lw) 13 c).2 j) →
    ∃ σ' : am_St, am_run (d + 4) 30 13 [.ref 21, .ref 3, .int (nI (six q)), .int (nI c)] [] σ τ = some (none, σ', τ) ∧ (∀ a, a ≠ 19 → a ≠ 20 → a ≠ 21 → a ≠ 23 → a ≠ 24 → σ' a = σ a) ∧ σ' 21 1 = nI q ∧ σ' 21 0 = nI (mdF (erS n q kd wr al f g lw) 13 (six q)).1 ∧ ∀ j, j < q → σ' 23 j = dgS q (mdF (erS n q kd wr al f g lw) 13 (six q)).2 j := by
  intro k
  have h6 := six_le h4
  have h60 := six_pos q
  have hE : ∀ c, erS n q kd wr al f g lw c ≤ 12 := fun c => Nat.le_trans (cnt_le _ n) h12
  have hM : ∀ c, (mdF (erS n q kd wr al f g lw) 13 c).1 ≤ 1000 := fun c => mdF_le hE (by omega) c
  induction k with
  | zero =>
    intro c σ hc hn hP hkw hlw hqs hat hfw hb
    have e : c = six q := by omega
    subst e
    refine ⟨σ, ?_, fun _ _ _ _ _ _ => rfl, hqs, hfw, hb h60⟩
    rw [r30_13]
    simp (disch := first | assumption | omega | rfl | exact Nat.le_of_ble_eq_true rfl | decide) only [r30_0, r30_1, r30_4, r30_5, r30_6, r30_8, r30_11, r30_12, r30_14, r30_15, r30_18, r30_19, r30_22, r30_25, r30_26, r30_27, r30_30, r30_31, r30_34, r30_35, r30_38, r30_41, r30_42, r30_45, r30_46, r30_49, r30_50, r30_53, r30_56, r30_57, r30_60, r30_63, r30_64, r30_65, r30_68, r30_71, r30_74, r30_75, r30_78, r30_81, r30_84, am_gf_4_3, am_gf_21_0, am_gf_21_4, am_gf_21_5, am_gf_21_6, am_pf_21_0, am_ai_7, am_ai_24, am_nl_i, am_nl_r, am_nl_n, am_nl_l, Option.bind_some, Option.toList_some, Option.toList_none, List.cons_append, List.nil_append, if_true, if_false, Bool.false_eq_true, Int.reduceEq, Int.reduceAdd, ↓reduceIte, i_rf]
  | succ k ih =>
    intro c σ hc hn hP hkw hlw hqs hat hfw hb
    have hc6 : ¬ six q ≤ c := by omega
    have hMc := hM c
    by_cases h0 : (mdF (erS n q kd wr al f g lw) 13 c).1 = 0
    · -- nothing can be better
      have hcp : 0 < c := by
        rcases Nat.eq_zero_or_pos c with h | h
        · subst h; exact absurd h0 (show ¬ (13 : Nat) = 0 by decide)
        · exact h
      have hsame := mdF_0 h0 (show c ≤ six q by omega)
      refine ⟨σ, ?_, fun _ _ _ _ _ _ => rfl, hqs, by rw [hsame]; exact hfw, by rw [hsame]; exact hb hcp⟩
      rw [r30_13]
      have hle : nI 0 ≤ 0 := by decide
      simp (disch := first | assumption | omega | rfl | exact Nat.le_of_ble_eq_true rfl | decide) only [r30_0, r30_1, r30_4, r30_5, r30_6, r30_8, r30_11, r30_12, r30_14, r30_15, r30_18, r30_19, r30_22, r30_25, r30_26, r30_27, r30_30, r30_31, r30_34, r30_35, r30_38, r30_41, r30_42, r30_45, r30_46, r30_49, r30_50, r30_53, r30_56, r30_57, r30_60, r30_63, r30_64, r30_65, r30_68, r30_71, r30_74, r30_75, r30_78, r30_81, r30_84, am_gf_4_3, am_gf_21_0, am_gf_21_4, am_gf_21_5, am_gf_21_6, am_pf_21_0, am_ai_7, am_ai_24, am_nl_i, am_nl_r, am_nl_n, am_nl_l, Option.bind_some, Option.toList_some, Option.toList_none, List.cons_append, List.nil_append, if_true, if_false, Bool.false_eq_true, Int.reduceEq, Int.reduceAdd, ↓reduceIte, ni_le, hc6, hfw, h0, hle]
    · have hpos : ¬ nI (mdF (erS n q kd wr al f g lw) 13 c).1 ≤ 0 := nI_nle (by omega) (by omega)
      obtain ⟨σ1, a1, a2, a3⟩ := c_callFounders (d := d + 3) (τ := τ) (c0 := c) h12 hq h4 (by omega) hqs hat
      have k1 : ∀ a, a ≠ 24 → σ1 a = σ a := a2
      obtain ⟨σ2, b1, b2, b3⟩ := c_give (d := d) (σ := σ1) (τ := τ) (n := n) (kd := kd) (tl := σ1 24) (al := al) (f := f) (g := g) (lw := lw) NO_18 (fc := 7) (tc := 24) (lc := 3) rfl rfl rfl h12 (by intro c h; omega) (by rw [k1 4 (by decide)]; exact hn) (by rw [k1 7 (by decide), k1 8 (by decide)]; exact hP) (fun j hj => ⟨by rw [k1 5 (by decide)]; exact (hkw j hj).1, rfl⟩) (fun j hj => by rw [k1 3 (by decide)]; exact hlw j hj)
      have enm : nmS kd (σ1 24) al f g lw n = nmS kd (fun j => dgS q c (cnt al j)) al f g lw n := nmS_congr (fun i hi ha => a3 i hi ha)
      have k2 : ∀ a, a ≠ 19 → a ≠ 20 → a ≠ 24 → σ2 a = σ a := fun a x y z => by rw [b2 a x y, k1 a z]
      have hn2 : σ2 4 0 = nI n := by rw [k2 4 (by decide) (by decide) (by decide)]; exact hn
      have hcnt : cnt (wrB (σ2 19) (σ2 12)) n = erS n q kd wr al f g lw c := by
        unfold erS
        apply cnt_congr
        intro j hj
        unfold wrB
        rw [b3 j hj, enm, k2 12 (by decide) (by decide) (by decide), (hkw j hj).2]
      have her : am_call (d + 3) 42 [.ref 18] σ2 τ = some (some (.int (nI (erS n q kd wr al f g lw c))), σ2, τ) := by
        rw [c_errors (d := d + 2) NO_18 hn2 h12, hcnt]
      have hEc := hE c
      have hfw2 : σ2 21 0 = nI (mdF (erS n q kd wr al f g lw) 13 c).1 := by rw [k2 21 (by decide) (by decide) (by decide)]; exact hfw
      by_cases hlt : erS n q kd wr al f g lw c < (mdF (erS n q kd wr al f g lw) 13 c).1
      · have hs : mdF (erS n q kd wr al f g lw) 13 (c + 1) = (erS n q kd wr al f g lw c, c) := by rw [mdF_s, if_pos hlt]
        obtain ⟨σ3, c1, c2, c3⟩ := c_keepBest (d := d + 3) (τ := τ) (σ := am_up σ2 21 0 (nI (erS n q kd wr al f g lw c))) (t := dgS q c) h12 hq h4 (by rw [am_up_eq, pk_un (by decide), k2 21 (by decide) (by decide) (by decide)]; exact hqs) (fun j hj ha => by
          rw [am_up_ne (by decide), am_up_ne (by decide), k2 22 (by decide) (by decide) (by decide), b2 24 (by decide) (by decide), a3 j hj ha]
          exact ⟨hat j hj ha, rfl⟩)
        have k3 : ∀ a, a ≠ 19 → a ≠ 20 → a ≠ 21 → a ≠ 23 → a ≠ 24 → σ3 a = σ a := fun a x y z w v => by rw [c2 a w, am_up_ne z, k2 a x y v]
        have e21 : ∀ j, j ≠ 0 → σ3 21 j = σ 21 j := fun j hj => by rw [c2 21 (by decide), am_up_eq, pk_un hj, k2 21 (by decide) (by decide) (by decide)]
        obtain ⟨σ', g1, g2, g3⟩ := ih (c + 1) σ3 (by omega) (by rw [k3 4 (by decide) (by decide) (by decide) (by decide) (by decide)]; exact hn) (by rw [k3 7 (by decide) (by decide) (by decide) (by decide) (by decide), k3 8 (by decide) (by decide) (by decide) (by decide) (by decide)]; exact hP) (fun j hj => by rw [k3 5 (by decide) (by decide) (by decide) (by decide) (by decide), k3 12 (by decide) (by decide) (by decide) (by decide) (by decide)]; exact hkw j hj) (fun j hj => by rw [k3 3 (by decide) (by decide) (by decide) (by decide) (by decide)]; exact hlw j hj) (by rw [e21 1 (by decide)]; exact hqs) (fun j hj ha => by rw [k3 22 (by decide) (by decide) (by decide) (by decide) (by decide)]; exact hat j hj ha) (by rw [hs, c2 21 (by decide), am_up_eq, pk_us]) (fun _ j hj => by rw [hs]; exact c3 j hj)
        refine ⟨σ', ?_, fun a x y z w v => by rw [g2 a x y z w v, k3 a x y z w v], g3⟩
        rw [← g1, r30_13]
        have hl2 : ¬ (mdF (erS n q kd wr al f g lw) 13 c).1 ≤ erS n q kd wr al f g lw c := by omega
        simp (disch := first | assumption | omega | rfl | exact Nat.le_of_ble_eq_true rfl | decide) only [r30_0, r30_1, r30_4, r30_5, r30_6, r30_8, r30_11, r30_12, r30_14, r30_15, r30_18, r30_19, r30_22, r30_25, r30_26, r30_27, r30_30, r30_31, r30_34, r30_35, r30_38, r30_41, r30_42, r30_45, r30_46, r30_49, r30_50, r30_53, r30_56, r30_57, r30_60, r30_63, r30_64, r30_65, r30_68, r30_71, r30_74, r30_75, r30_78, r30_81, r30_84, am_gf_4_3, am_gf_21_0, am_gf_21_4, am_gf_21_5, am_gf_21_6, am_pf_21_0, am_ai_7, am_ai_24, am_nl_i, am_nl_r, am_nl_n, am_nl_l, Option.bind_some, Option.toList_some, Option.toList_none, List.cons_append, List.nil_append, if_true, if_false, Bool.false_eq_true, Int.reduceEq, Int.reduceAdd, ↓reduceIte, ni_le, hc6, hfw, hpos, a1, b1, her, hfw2, hl2, c1, nI_1]
      · have hs : mdF (erS n q kd wr al f g lw) 13 (c + 1) = mdF (erS n q kd wr al f g lw) 13 c := by rw [mdF_s, if_neg hlt]
        have hcp : 0 < c := by
          rcases Nat.eq_zero_or_pos c with h | h
          · subst h; exact absurd (show _ < 13 by omega) hlt
          · exact h
        obtain ⟨σ', g1, g2, g3⟩ := ih (c + 1) σ2 (by omega) hn2 (by rw [k2 7 (by decide) (by decide) (by decide), k2 8 (by decide) (by decide) (by decide)]; exact hP) (fun j hj => by rw [k2 5 (by decide) (by decide) (by decide), k2 12 (by decide) (by decide) (by decide)]; exact hkw j hj) (fun j hj => by rw [k2 3 (by decide) (by decide) (by decide)]; exact hlw j hj) (by rw [k2 21 (by decide) (by decide) (by decide)]; exact hqs) (fun j hj ha => by rw [k2 22 (by decide) (by decide) (by decide)]; exact hat j hj ha) (by rw [hs]; exact hfw2) (fun _ j hj => by rw [hs, k2 23 (by decide) (by decide) (by decide)]; exact hb hcp j hj)
        refine ⟨σ', ?_, fun a x y z w v => by rw [g2 a x y z w v, k2 a x y v], g3⟩
        rw [← g1, r30_13]
        have hl2 : (mdF (erS n q kd wr al f g lw) 13 c).1 ≤ erS n q kd wr al f g lw c := by omega
        simp (disch := first | assumption | omega | rfl | exact Nat.le_of_ble_eq_true rfl | decide) only [r30_0, r30_1, r30_4, r30_5, r30_6, r30_8, r30_11, r30_12, r30_14, r30_15, r30_18, r30_19, r30_22, r30_25, r30_26, r30_27, r30_30, r30_31, r30_34, r30_35, r30_38, r30_41, r30_42, r30_45, r30_46, r30_49, r30_50, r30_53, r30_56, r30_57, r30_60, r30_63, r30_64, r30_65, r30_68, r30_71, r30_74, r30_75, r30_78, r30_81, r30_84, am_gf_4_3, am_gf_21_0, am_gf_21_4, am_gf_21_5, am_gf_21_6, am_pf_21_0, am_ai_7, am_ai_24, am_nl_i, am_nl_r, am_nl_n, am_nl_l, Option.bind_some, Option.toList_some, Option.toList_none, List.cons_append, List.nil_append, if_true, if_false, Bool.false_eq_true, Int.reduceEq, Int.reduceAdd, ↓reduceIte, ni_le, hc6, hfw, hpos, a1, b1, her, hfw2, hl2, nI_1]
/-- mended: how few, and which names -/
theorem c_msearch {d n q : Nat} {σ : am_St} {τ : Int64} {kd wr : Nat → Int32} {al : Nat → Bool} {f g : Nat → Nat} {lw : Nat → Int32} (h12 : n ≤ 12) (hq : q = cnt al n) (h4 : q ≤ 4) (hn : σ 4 0 = nI n) (hP : PH n al f g (σ 7) (σ 8)) (hkw : ∀ j, j < n → σ 5 j = kd j ∧ σ 12 j = wr j) (hlw : ∀ j, j < 4 → σ 3 j = lw j) : ∃ σ' : am_St, am_call (d + 4) 30 [.ref 21, .ref 3] σ τ = some (none, σ', τ) ∧ (∀ a, a ≠ 19 → a ≠ 20 → a ≠ 21 → a ≠ 22 → a ≠ 23 → a ≠ 24 → σ' a = σ a) ∧ σ' 21 1 = nI q ∧ σ' 21 0 = nI (mdF (erS n q kd wr al f g lw) 13 (six q)).1 ∧ ∀ j, j < q → σ' 23 j = dgS q (mdF (erS n q kd wr al f g lw) 13 (six q)).2 j := by
  obtain ⟨σ1, a1, a2, a3, a4⟩ := c_findFounders (d := d + 2) (τ := τ) h12 (by rw [← hq]; exact h4) hn hP
  have k1 : ∀ a, a ≠ 21 → a ≠ 22 → am_up σ1 21 0 13 a = σ a := fun a x y => by rw [am_up_ne x, a2 a x y]
  obtain ⟨σ', g1, g2, g3, g4, g5⟩ := c_mend_loop (d := d) (τ := τ) (kd := kd) (wr := wr) (f := f) (g := g) (lw := lw) h12 hq h4 (six q) 0 (am_up σ1 21 0 13) (by omega) (by rw [k1 4 (by decide) (by decide)]; exact hn) (by rw [k1 7 (by decide) (by decide), k1 8 (by decide) (by decide)]; exact hP) (fun j hj => by rw [k1 5 (by decide) (by decide), k1 12 (by decide) (by decide)]; exact hkw j hj) (fun j hj => by rw [k1 3 (by decide) (by decide)]; exact hlw j hj) (by rw [am_up_eq, pk_un (by decide), a3, hq]) (fun j hj ha => by rw [am_up_ne (by decide)]; exact a4 j hj ha) (by rw [am_up_eq, pk_us]; rfl) (fun h => absurd h (by omega))
  refine ⟨σ', ?_, fun a x y z w v u => by rw [g2 a x y z v u, k1 a z w], g3, g4, g5⟩
  show am_run (d + 4) 30 0 [.ref 21, .ref 3, .null, .null] [] σ τ = _
  simp (disch := first | assumption | omega | rfl | exact Nat.le_of_ble_eq_true rfl | decide) only [r30_0, r30_1, r30_4, r30_5, r30_6, r30_8, r30_11, r30_12, r30_14, r30_15, r30_18, r30_19, r30_22, r30_25, r30_26, r30_27, r30_30, r30_31, r30_34, r30_35, r30_38, r30_41, r30_42, r30_45, r30_46, r30_49, r30_50, r30_53, r30_56, r30_57, r30_60, r30_63, r30_64, r30_65, r30_68, r30_71, r30_74, r30_75, r30_78, r30_81, r30_84, am_gf_4_3, am_gf_21_0, am_gf_21_4, am_gf_21_5, am_gf_21_6, am_pf_21_0, am_ai_7, am_ai_24, am_nl_i, am_nl_r, am_nl_n, am_nl_l, Option.bind_some, Option.toList_some, Option.toList_none, List.cons_append, List.nil_append, if_true, if_false, Bool.false_eq_true, Int.reduceEq, Int.reduceAdd, ↓reduceIte, a1]
  rw [← hq]
  exact g1
