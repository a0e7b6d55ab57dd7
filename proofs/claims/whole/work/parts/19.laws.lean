/-! OtherName$LawSearch, OtherName$Image -/
theorem ni_d {a k : Nat} (h : a < 2147483648) (hk : 0 < k) (hk2 : k < 2147483648) : nI a / nI k = nI (a / k) := pk_div h hk hk2
theorem ni_r {a k : Nat} (h : a < 2147483648) (hk : 0 < k) (hk2 : k < 2147483648) : nI a - nI (a / k) * nI k = nI (a % k) := by
  have := pk_rem (a := a) (d := k) h hk hk2
  rw [pk_div h hk hk2] at this
  exact this
/-- the c-th law that is tried: its three numbers -/
def lwT (c j : Nat) : Int32 := if c < 4 then (if j = 0 then nI c else if j = 1 then 0 else -1) else (if j = 0 then nI ((c - 4) / 16) else if j = 1 then nI (2 + (c - 4) / 4 % 4) else nI ((c - 4) % 4))
theorem c_setTried {d c : Nat} {σ : am_St} {τ : Int64} (hc : c < 68) : am_call d 28 [.ref 31, .int (nI c)] σ τ = some (none, am_up (am_up (am_up σ 33 0 (lwT c 0)) 33 1 (lwT c 1)) 33 2 (lwT c 2), τ) := by
  show am_run d 28 0 [.ref 31, .int (nI c), .null] [] σ τ = _
  unfold lwT
  by_cases h : c < 4
  · have h' : ¬ 4 ≤ c := by omega
    simp (disch := first | assumption | omega | rfl | exact Nat.le_of_ble_eq_true rfl | decide) only [r28_0, r28_1, r28_2, r28_5, r28_6, r28_9, r28_10, r28_13, r28_14, r28_17, r28_18, r28_21, r28_22, r28_25, r28_26, r28_29, r28_32, r28_33, r28_34, r28_35, r28_36, r28_37, r28_40, r28_41, r28_43, r28_44, r28_47, r28_48, r28_51, r28_52, r28_53, r28_54, r28_55, r28_56, r28_57, r28_58, r28_61, r28_62, r28_65, r28_66, r28_67, r28_68, r28_71, am_gf_31_2, am_pf_3_0, am_pf_32_0, am_pf_33_0, am_pf_3_1, am_pf_32_1, am_pf_33_1, am_pf_3_2, am_pf_32_2, am_pf_33_2, am_nl_i, am_nl_r, am_nl_n, am_nl_l, Option.bind_some, Option.toList_some, Option.toList_none, List.cons_append, List.nil_append, if_true, if_false, Bool.false_eq_true, Int.reduceEq, Int.reduceAdd, ↓reduceIte, show (4 : Int32) = nI 4 from rfl, ni_le, h', h]
    rfl
  · have h' : 4 ≤ c := by omega
    obtain ⟨m, rfl⟩ : ∃ m, c = m + 4 := ⟨c - 4, by omega⟩
    have e4 : ¬ nI 4 = 0 := by decide
    have e16 : ¬ nI 16 = 0 := by decide
    have es : nI (m + 4) - nI 4 = nI m := by rw [pk_sub (by omega)]; rfl
    have er : nI m - nI (m / 4) * nI 4 = nI (m % 4) := ni_r (by omega) (by decide) (by decide)
    have er2 : nI (m / 4) - nI (m / 4 / 4) * nI 4 = nI (m / 4 % 4) := ni_r (by omega) (by decide) (by decide)
    simp (disch := first | assumption | omega | rfl | exact Nat.le_of_ble_eq_true rfl | decide) only [r28_0, r28_1, r28_2, r28_5, r28_6, r28_9, r28_10, r28_13, r28_14, r28_17, r28_18, r28_21, r28_22, r28_25, r28_26, r28_29, r28_32, r28_33, r28_34, r28_35, r28_36, r28_37, r28_40, r28_41, r28_43, r28_44, r28_47, r28_48, r28_51, r28_52, r28_53, r28_54, r28_55, r28_56, r28_57, r28_58, r28_61, r28_62, r28_65, r28_66, r28_67, r28_68, r28_71, am_gf_31_2, am_pf_3_0, am_pf_32_0, am_pf_33_0, am_pf_3_1, am_pf_32_1, am_pf_33_1, am_pf_3_2, am_pf_32_2, am_pf_33_2, am_nl_i, am_nl_r, am_nl_n, am_nl_l, Option.bind_some, Option.toList_some, Option.toList_none, List.cons_append, List.nil_append, if_true, if_false, Bool.false_eq_true, Int.reduceEq, Int.reduceAdd, ↓reduceIte, show (4 : Int32) = nI 4 from rfl, show (16 : Int32) = nI 16 from rfl, show (2 : Int32) = nI 2 from rfl, ni_le, h', h, es, e4, e16, ni_d, er, er2, nI_add, Nat.add_sub_cancel]
    rfl
/-- how many of the first c laws fit, and the first that does -/
def ftF (B : Nat → Bool) : Nat → Nat × Nat
  | 0 => (0, 0)
  | c + 1 => if B c = true then ((ftF B c).1 + 1, if (ftF B c).1 = 0 then c else (ftF B c).2) else ftF B c
theorem ftF_s (B : Nat → Bool) (c : Nat) : ftF B (c + 1) = if B c = true then ((ftF B c).1 + 1, if (ftF B c).1 = 0 then c else (ftF B c).2) else ftF B c := rfl
theorem ftF_le (B : Nat → Bool) (c : Nat) : (ftF B c).1 ≤ c := by
  induction c with
  | zero => exact Nat.le_refl 0
  | succ c ih => rw [ftF_s]; split <;> (try dsimp only) <;> omega
theorem c_noteFit {d k : Nat} {σ : am_St} {τ : Int64} (hk : σ 31 0 = nI k) (hk2 : k < 1000) : ∃ σ' : am_St, am_call d 29 [.ref 31] σ τ = some (none, σ', τ) ∧ (∀ a, a ≠ 31 → a ≠ 32 → σ' a = σ a) ∧ σ' 31 0 = nI (k + 1) ∧ ∀ j, j < 3 → σ' 32 j = if k = 0 then σ 33 j else σ 32 j := by
  by_cases h : k = 0
  · subst h
    refine ⟨am_up (am_up (am_up (am_up σ 32 0 (σ 33 0)) 32 1 (σ 33 1)) 32 2 (σ 33 2)) 31 0 (nI 1), ?_, fun a x y => by rw [am_up_ne x, am_up_ne y, am_up_ne y, am_up_ne y], by rw [am_up_eq, pk_us], fun j hj => ?_⟩
    · show am_run d 29 0 [.ref 31] [] σ τ = _
      have e : nI 0 = 0 := rfl
      simp (disch := first | assumption | omega | rfl | exact Nat.le_of_ble_eq_true rfl | decide) only [r29_0, r29_1, r29_4, r29_7, r29_8, r29_11, r29_12, r29_15, r29_18, r29_21, r29_22, r29_25, r29_26, r29_29, r29_32, r29_35, r29_36, r29_39, r29_40, r29_43, r29_46, r29_49, r29_50, r29_50i, r29_51, r29_54, r29_55, r29_56, r29_59, am_gf_3_0, am_gf_32_0, am_gf_33_0, am_gf_3_1, am_gf_32_1, am_gf_33_1, am_gf_3_2, am_gf_32_2, am_gf_33_2, am_gf_31_0, am_gf_31_1, am_gf_31_2, am_pf_3_0, am_pf_32_0, am_pf_33_0, am_pf_3_1, am_pf_32_1, am_pf_33_1, am_pf_3_2, am_pf_32_2, am_pf_33_2, am_pf_31_0, am_nl_i, am_nl_r, am_nl_n, am_nl_l, Option.bind_some, Option.toList_some, Option.toList_none, List.cons_append, List.nil_append, if_true, if_false, Bool.false_eq_true, Int.reduceEq, Int.reduceAdd, ↓reduceIte, hk, e, am_up_ne]
      rfl
    · rw [am_up_ne (by decide), am_up_eq, am_up_eq, am_up_eq]
      unfold upd
      rcases (show j = 0 ∨ j = 1 ∨ j = 2 by omega) with rfl | rfl | rfl <;> rfl
  · refine ⟨am_up σ 31 0 (nI (k + 1)), ?_, fun a x y => by rw [am_up_ne x], by rw [am_up_eq, pk_us], fun j hj => by rw [am_up_ne (by decide), if_neg h]⟩
    show am_run d 29 0 [.ref 31] [] σ τ = _
    have e : ¬ nI k = 0 := nI_ne0 (by omega) (by omega)
    simp (disch := first | assumption | omega | rfl | exact Nat.le_of_ble_eq_true rfl | decide) only [r29_0, r29_1, r29_4, r29_7, r29_8, r29_11, r29_12, r29_15, r29_18, r29_21, r29_22, r29_25, r29_26, r29_29, r29_32, r29_35, r29_36, r29_39, r29_40, r29_43, r29_46, r29_49, r29_50, r29_50i, r29_51, r29_54, r29_55, r29_56, r29_59, am_gf_3_0, am_gf_32_0, am_gf_33_0, am_gf_3_1, am_gf_32_1, am_gf_33_1, am_gf_3_2, am_gf_32_2, am_gf_33_2, am_gf_31_0, am_gf_31_1, am_gf_31_2, am_pf_3_0, am_pf_32_0, am_pf_33_0, am_pf_3_1, am_pf_32_1, am_pf_33_1, am_pf_3_2, am_pf_32_2, am_pf_33_2, am_pf_31_0, am_nl_i, am_nl_r, am_nl_n, am_nl_l, Option.bind_some, Option.toList_some, Option.toList_none, List.cons_append, List.nil_append, if_true, if_false, Bool.false_eq_true, Int.reduceEq, Int.reduceAdd, ↓reduceIte, hk, e, nI_1]
/-- by the c-th law nothing is wrong -/
def fitB (n : Nat) (kd tl wr : Nat → Int32) (al : Nat → Bool) (f g : Nat → Nat) (tw : Int32) (c : Nat) : Bool := decide (ff (wrB (nmS kd tl al f g (fun j => if j = 3 then tw else lwT c j) n) wr) n 0 = -1)
theorem c_lsearch_loop {d n : Nat} {τ : Int64} {kd tl wr : Nat → Int32} {al : Nat → Bool} {f g : Nat → Nat} {tw : Int32} (h12 : n ≤ 12) : ∀ k c (σ : am_St), c + k = 68 → σ 4 0 = nI n → PH n al f g (σ 7) (σ 8) → (∀ j, j < n → σ 5 j = kd j ∧ σ 11 j = tl j) → (∀ j, j < n → σ 12 j = wr j) → σ 33 3 = tw → σ 31 0 = nI (ftF (fitB n kd tl wr al f g tw) c).1 → ((ftF (fitB n kd tl wr al f g tw) c).1 ≠ 0 → ∀ j, j < 3 → σ 32 j = lwT (ftF (fitB n kd tl wr al f g tw) c).2 j) →
    ∃ σ' : am_St, am_run (d + 4) 26 15 [.ref 31, .int tw, .int (nI c)] [] σ τ = some (none, σ', τ) ∧ (∀ a, a ≠ 19 → a ≠ 20 → a ≠ 31 → a ≠ 32 → a ≠ 33 → σ' a = σ a) ∧ σ' 31 0 = nI (ftF (fitB n kd tl wr al f g tw) 68).1 ∧ ((ftF (fitB n kd tl wr al f g tw) 68).1 ≠ 0 → ∀ j, j < 3 → σ' 32 j = lwT (ftF (fitB n kd tl wr al f g tw) 68).2 j) := by
  intro k
  induction k with
  | zero =>
    intro c σ hc hn hP hkt hw ht hfi hff
    have e : c = 68 := by omega
    subst e
    refine ⟨σ, ?_, fun _ _ _ _ _ _ => rfl, hfi, hff⟩
    rw [r26_15]
    have e : (68 : Int32) ≤ nI 68 := by decide
    simp (disch := first | assumption | omega | rfl | exact Nat.le_of_ble_eq_true rfl | decide) only [r26_0, r26_1, r26_2, r26_5, r26_6, r26_9, r26_10, r26_13, r26_14, r26_16, r26_18, r26_21, r26_22, r26_23, r26_26, r26_27, r26_30, r26_31, r26_34, r26_37, r26_38, r26_41, r26_44, r26_45, r26_48, r26_51, r26_52, r26_55, r26_58, r26_59, r26_62, r26_63, r26_66, r26_69, r26_72, am_gf_4_3, am_gf_4_7, am_gf_31_2, am_gf_31_3, am_gf_31_4, am_pf_3_3, am_pf_32_3, am_pf_33_3, am_pf_31_0, am_ai_7, am_ai_11, am_nl_i, am_nl_r, am_nl_n, am_nl_l, Option.bind_some, Option.toList_some, Option.toList_none, List.cons_append, List.nil_append, if_true, if_false, Bool.false_eq_true, Int.reduceEq, Int.reduceAdd, ↓reduceIte, e]
  | succ k ih =>
    intro c σ hc hn hP hkt hw ht hfi hff
    have hc6 : ¬ 68 ≤ c := by omega
    have hlc := ftF_le (fitB n kd tl wr al f g tw) c
    have a1 := c_setTried (d := d + 3) (σ := σ) (τ := τ) (show c < 68 by omega)
    have k1 : ∀ a, a ≠ 33 → am_up (am_up (am_up σ 33 0 (lwT c 0)) 33 1 (lwT c 1)) 33 2 (lwT c 2) a = σ a := fun a x => by rw [am_up_ne x, am_up_ne x, am_up_ne x]
    have k33 : ∀ j, j < 4 → am_up (am_up (am_up σ 33 0 (lwT c 0)) 33 1 (lwT c 1)) 33 2 (lwT c 2) 33 j = if j = 3 then tw else lwT c j := by
      intro j hj
      rw [am_up_eq, am_up_eq, am_up_eq]
      unfold upd
      rcases (show j = 0 ∨ j = 1 ∨ j = 2 ∨ j = 3 by omega) with rfl | rfl | rfl | rfl
      · rfl
      · rfl
      · rfl
      · exact ht
    generalize am_up (am_up (am_up σ 33 0 (lwT c 0)) 33 1 (lwT c 1)) 33 2 (lwT c 2) = σ1 at a1 k1 k33
    obtain ⟨σ2, b1, b2, b3⟩ := c_give (d := d) (σ := σ1) (τ := τ) (n := n) (kd := kd) (tl := tl) (al := al) (f := f) (g := g) (lw := fun j => if j = 3 then tw else lwT c j) NO_18 (fc := 7) (tc := 11) (lc := 33) rfl rfl rfl h12 (by intro c h; omega) (by rw [k1 4 (by decide)]; exact hn) (by rw [k1 7 (by decide), k1 8 (by decide)]; exact hP) (fun j hj => by rw [k1 5 (by decide), k1 11 (by decide)]; exact hkt j hj) k33
    have k2 : ∀ a, a ≠ 19 → a ≠ 20 → a ≠ 33 → σ2 a = σ a := fun a x y z => by rw [b2 a x y, k1 a z]
    have hn2 : σ2 4 0 = nI n := by rw [k2 4 (by decide) (by decide) (by decide)]; exact hn
    have hfe : ff (wrB (σ2 19) (σ2 12)) n 0 = ff (wrB (nmS kd tl al f g (fun j => if j = 3 then tw else lwT c j) n) wr) n 0 := by
      apply ff_congr
      intro j _ hj
      unfold wrB
      rw [b3 j (by omega), k2 12 (by decide) (by decide) (by decide), hw j (by omega)]
    have her : am_call (d + 3) 43 [.ref 18] σ2 τ = some (some (.int (ff (wrB (nmS kd tl al f g (fun j => if j = 3 then tw else lwT c j) n) wr) n 0)), σ2, τ) := by
      rw [c_firstError (d := d + 2) NO_18 hn2 h12, hfe]
    have h31 : σ2 31 0 = nI (ftF (fitB n kd tl wr al f g tw) c).1 := by rw [k2 31 (by decide) (by decide) (by decide)]; exact hfi
    cases hB : fitB n kd tl wr al f g tw c with
    | true =>
      have hs : ftF (fitB n kd tl wr al f g tw) (c + 1) = ((ftF (fitB n kd tl wr al f g tw) c).1 + 1, if (ftF (fitB n kd tl wr al f g tw) c).1 = 0 then c else (ftF (fitB n kd tl wr al f g tw) c).2) := by rw [ftF_s, if_pos hB]
      obtain ⟨σ3, c1, c2, c3, c4⟩ := c_noteFit (d := d + 3) (τ := τ) h31 (by omega)
      have k3 : ∀ a, a ≠ 19 → a ≠ 20 → a ≠ 31 → a ≠ 32 → a ≠ 33 → σ3 a = σ a := fun a x y z w v => by rw [c2 a z w, k2 a x y v]
      obtain ⟨σ', g1, g2, g3⟩ := ih (c + 1) σ3 (by omega) (by rw [k3 4 (by decide) (by decide) (by decide) (by decide) (by decide)]; exact hn) (by rw [k3 7 (by decide) (by decide) (by decide) (by decide) (by decide), k3 8 (by decide) (by decide) (by decide) (by decide) (by decide)]; exact hP) (fun j hj => by rw [k3 5 (by decide) (by decide) (by decide) (by decide) (by decide), k3 11 (by decide) (by decide) (by decide) (by decide) (by decide)]; exact hkt j hj) (fun j hj => by rw [k3 12 (by decide) (by decide) (by decide) (by decide) (by decide)]; exact hw j hj) (by rw [c2 33 (by decide) (by decide), b2 33 (by decide) (by decide), k33 3 (by decide)]; rfl) (by rw [hs]; exact c3) (fun _ j hj => by
        rw [hs, c4 j hj]
        dsimp only
        split
        · rw [b2 33 (by decide) (by decide), k33 j (by omega), if_neg (by omega)]
        · rename_i h0
          rw [k2 32 (by decide) (by decide) (by decide)]
          exact hff h0 j hj)
      refine ⟨σ', ?_, fun a x y z w v => by rw [g2 a x y z w v, k3 a x y z w v], g3⟩
      rw [← g1, r26_15]
      have hb := of_decide_eq_true hB
      simp (disch := first | assumption | omega | rfl | exact Nat.le_of_ble_eq_true rfl | decide) only [r26_0, r26_1, r26_2, r26_5, r26_6, r26_9, r26_10, r26_13, r26_14, r26_16, r26_18, r26_21, r26_22, r26_23, r26_26, r26_27, r26_30, r26_31, r26_34, r26_37, r26_38, r26_41, r26_44, r26_45, r26_48, r26_51, r26_52, r26_55, r26_58, r26_59, r26_62, r26_63, r26_66, r26_69, r26_72, am_gf_4_3, am_gf_4_7, am_gf_31_2, am_gf_31_3, am_gf_31_4, am_pf_3_3, am_pf_32_3, am_pf_33_3, am_pf_31_0, am_ai_7, am_ai_11, am_nl_i, am_nl_r, am_nl_n, am_nl_l, Option.bind_some, Option.toList_some, Option.toList_none, List.cons_append, List.nil_append, if_true, if_false, Bool.false_eq_true, Int.reduceEq, Int.reduceAdd, ↓reduceIte, show (68 : Int32) = nI 68 from rfl, ni_le, hc6, a1, b1, her, hb, c1, nI_1]
    | false =>
      have hs : ftF (fitB n kd tl wr al f g tw) (c + 1) = ftF (fitB n kd tl wr al f g tw) c := by rw [ftF_s, if_neg (by rw [hB]; decide)]
      obtain ⟨σ', g1, g2, g3⟩ := ih (c + 1) σ2 (by omega) hn2 (by rw [k2 7 (by decide) (by decide) (by decide), k2 8 (by decide) (by decide) (by decide)]; exact hP) (fun j hj => by rw [k2 5 (by decide) (by decide) (by decide), k2 11 (by decide) (by decide) (by decide)]; exact hkt j hj) (fun j hj => by rw [k2 12 (by decide) (by decide) (by decide)]; exact hw j hj) (by rw [b2 33 (by decide) (by decide), k33 3 (by decide)]; rfl) (by rw [hs]; exact h31) (fun h j hj => by
        rw [hs] at h ⊢
        rw [k2 32 (by decide) (by decide) (by decide)]
        exact hff h j hj)
      refine ⟨σ', ?_, fun a x y z w v => by rw [g2 a x y z w v, k2 a x y v], g3⟩
      rw [← g1, r26_15]
      have hb := of_decide_eq_false hB
      simp (disch := first | assumption | omega | rfl | exact Nat.le_of_ble_eq_true rfl | decide) only [r26_0, r26_1, r26_2, r26_5, r26_6, r26_9, r26_10, r26_13, r26_14, r26_16, r26_18, r26_21, r26_22, r26_23, r26_26, r26_27, r26_30, r26_31, r26_34, r26_37, r26_38, r26_41, r26_44, r26_45, r26_48, r26_51, r26_52, r26_55, r26_58, r26_59, r26_62, r26_63, r26_66, r26_69, r26_72, am_gf_4_3, am_gf_4_7, am_gf_31_2, am_gf_31_3, am_gf_31_4, am_pf_3_3, am_pf_32_3, am_pf_33_3, am_pf_31_0, am_ai_7, am_ai_11, am_nl_i, am_nl_r, am_nl_n, am_nl_l, Option.bind_some, Option.toList_some, Option.toList_none, List.cons_append, List.nil_append, if_true, if_false, Bool.false_eq_true, Int.reduceEq, Int.reduceAdd, ↓reduceIte, show (68 : Int32) = nI 68 from rfl, ni_le, hc6, a1, b1, her, hb, nI_1]
theorem c_lsearch {d n : Nat} {σ : am_St} {τ : Int64} {kd tl wr : Nat → Int32} {al : Nat → Bool} {f g : Nat → Nat} {tw : Int32} (h12 : n ≤ 12) (hn : σ 4 0 = nI n) (hP : PH n al f g (σ 7) (σ 8)) (hkt : ∀ j, j < n → σ 5 j = kd j ∧ σ 11 j = tl j) (hw : ∀ j, j < n → σ 12 j = wr j) : ∃ σ' : am_St, am_call (d + 4) 26 [.ref 31, .int tw] σ τ = some (none, σ', τ) ∧ (∀ a, a ≠ 19 → a ≠ 20 → a ≠ 31 → a ≠ 32 → a ≠ 33 → σ' a = σ a) ∧ σ' 31 0 = nI (ftF (fitB n kd tl wr al f g tw) 68).1 ∧ ((ftF (fitB n kd tl wr al f g tw) 68).1 ≠ 0 → ∀ j, j < 3 → σ' 32 j = lwT (ftF (fitB n kd tl wr al f g tw) 68).2 j) := by
  have k1 : ∀ a, a ≠ 31 → a ≠ 33 → am_up (am_up σ 31 0 0) 33 3 tw a = σ a := fun a x y => by rw [am_up_ne y, am_up_ne x]
  obtain ⟨σ', g1, g2, g3⟩ := c_lsearch_loop (d := d) (τ := τ) (kd := kd) (tl := tl) (wr := wr) (f := f) (g := g) (tw := tw) h12 68 0 (am_up (am_up σ 31 0 0) 33 3 tw) rfl (by rw [k1 4 (by decide) (by decide)]; exact hn) (by rw [k1 7 (by decide) (by decide), k1 8 (by decide) (by decide)]; exact hP) (fun j hj => by rw [k1 5 (by decide) (by decide), k1 11 (by decide) (by decide)]; exact hkt j hj) (fun j hj => by rw [k1 12 (by decide) (by decide)]; exact hw j hj) (by rw [am_up_eq, pk_us]) (by rw [am_up_ne (by decide), am_up_eq, pk_us]; rfl) (fun h => absurd rfl h)
  refine ⟨σ', ?_, fun a x y z w v => by rw [g2 a x y z w v, k1 a z v], g3⟩
  show am_run (d + 4) 26 0 [.ref 31, .int tw, .null] [] σ τ = _
  simp (disch := first | assumption | omega | rfl | exact Nat.le_of_ble_eq_true rfl | decide) only [r26_0, r26_1, r26_2, r26_5, r26_6, r26_9, r26_10, r26_13, r26_14, r26_16, r26_18, r26_21, r26_22, r26_23, r26_26, r26_27, r26_30, r26_31, r26_34, r26_37, r26_38, r26_41, r26_44, r26_45, r26_48, r26_51, r26_52, r26_55, r26_58, r26_59, r26_62, r26_63, r26_66, r26_69, r26_72, am_gf_4_3, am_gf_4_7, am_gf_31_2, am_gf_31_3, am_gf_31_4, am_pf_3_3, am_pf_32_3, am_pf_33_3, am_pf_31_0, am_ai_7, am_ai_11, am_nl_i, am_nl_r, am_nl_n, am_nl_l, Option.bind_some, Option.toList_some, Option.toList_none, List.cons_append, List.nil_append, if_true, if_false, Bool.false_eq_true, Int.reduceEq, Int.reduceAdd, ↓reduceIte]
  exact g1
def tlsS (k : Nat) (r : Nat → Int32) (x : Int32) : Int32 := if x = 0 then nI k else if k = 0 then -1 else if x = 1 then r 0 else if x = 2 then r 1 else r 2
theorem c_tells {d k : Nat} {σ : am_St} {τ : Int64} {x : Int32} (hk : σ 31 0 = nI k) (hk2 : k < 1000) : am_call d 27 [.ref 31, .int x] σ τ = some (some (.int (tlsS k (σ 32) x)), σ, τ) := by
  show am_run d 27 0 [.ref 31, .int x] [] σ τ = _
  unfold tlsS
  by_cases h0 : x = 0
  · subst h0
    have q : (0 : Int32).toInt = 0 := by decide
    simp (disch := first | assumption | omega | rfl | exact Nat.le_of_ble_eq_true rfl | decide) only [r27_0, r27_1, r27_4, r27_5, r27_8, r27_11, r27_12, r27_13, r27_14, r27_40, r27_41, r27_44, r27_45, r27_46, r27_49, r27_52, r27_53, r27_54, r27_57, r27_60, r27_61, r27_62, r27_65, r27_68, am_gf_3_0, am_gf_32_0, am_gf_33_0, am_gf_3_1, am_gf_32_1, am_gf_33_1, am_gf_3_2, am_gf_32_2, am_gf_33_2, am_gf_31_0, am_gf_31_1, am_nl_i, am_nl_r, am_nl_n, am_nl_l, Option.bind_some, Option.toList_some, Option.toList_none, List.cons_append, List.nil_append, if_true, if_false, Bool.false_eq_true, Int.reduceEq, Int.reduceAdd, ↓reduceIte, hk, am_sw, q]
  · have q0 : ¬ x.toInt = 0 := lv_neT h0 rfl
    by_cases hz : k = 0
    · subst hz
      have e : nI 0 = 0 := rfl
      simp (disch := first | assumption | omega | rfl | exact Nat.le_of_ble_eq_true rfl | decide) only [r27_0, r27_1, r27_4, r27_5, r27_8, r27_11, r27_12, r27_13, r27_14, r27_40, r27_41, r27_44, r27_45, r27_46, r27_49, r27_52, r27_53, r27_54, r27_57, r27_60, r27_61, r27_62, r27_65, r27_68, am_gf_3_0, am_gf_32_0, am_gf_33_0, am_gf_3_1, am_gf_32_1, am_gf_33_1, am_gf_3_2, am_gf_32_2, am_gf_33_2, am_gf_31_0, am_gf_31_1, am_nl_i, am_nl_r, am_nl_n, am_nl_l, Option.bind_some, Option.toList_some, Option.toList_none, List.cons_append, List.nil_append, if_true, if_false, Bool.false_eq_true, Int.reduceEq, Int.reduceAdd, ↓reduceIte, hk, h0, e]
    · have e : ¬ nI k = 0 := nI_ne0 (by omega) (by omega)
      by_cases h1 : x = 1
      · subst h1
        have q1 : (1 : Int32).toInt = 1 := by decide
        simp (disch := first | assumption | omega | rfl | exact Nat.le_of_ble_eq_true rfl | decide) only [r27_0, r27_1, r27_4, r27_5, r27_8, r27_11, r27_12, r27_13, r27_14, r27_40, r27_41, r27_44, r27_45, r27_46, r27_49, r27_52, r27_53, r27_54, r27_57, r27_60, r27_61, r27_62, r27_65, r27_68, am_gf_3_0, am_gf_32_0, am_gf_33_0, am_gf_3_1, am_gf_32_1, am_gf_33_1, am_gf_3_2, am_gf_32_2, am_gf_33_2, am_gf_31_0, am_gf_31_1, am_nl_i, am_nl_r, am_nl_n, am_nl_l, Option.bind_some, Option.toList_some, Option.toList_none, List.cons_append, List.nil_append, if_true, if_false, Bool.false_eq_true, Int.reduceEq, Int.reduceAdd, ↓reduceIte, hk, h0, e, hz, am_sw, q1]
      · have q1 : ¬ x.toInt = 1 := lv_neT h1 rfl
        by_cases h2 : x = 2
        · subst h2
          have q2 : (2 : Int32).toInt = 2 := by decide
          simp (disch := first | assumption | omega | rfl | exact Nat.le_of_ble_eq_true rfl | decide) only [r27_0, r27_1, r27_4, r27_5, r27_8, r27_11, r27_12, r27_13, r27_14, r27_40, r27_41, r27_44, r27_45, r27_46, r27_49, r27_52, r27_53, r27_54, r27_57, r27_60, r27_61, r27_62, r27_65, r27_68, am_gf_3_0, am_gf_32_0, am_gf_33_0, am_gf_3_1, am_gf_32_1, am_gf_33_1, am_gf_3_2, am_gf_32_2, am_gf_33_2, am_gf_31_0, am_gf_31_1, am_nl_i, am_nl_r, am_nl_n, am_nl_l, Option.bind_some, Option.toList_some, Option.toList_none, List.cons_append, List.nil_append, if_true, if_false, Bool.false_eq_true, Int.reduceEq, Int.reduceAdd, ↓reduceIte, hk, h0, h1, e, hz, am_sw, q2]
        · have q2 : ¬ x.toInt = 2 := lv_neT h2 rfl
          simp (disch := first | assumption | omega | rfl | exact Nat.le_of_ble_eq_true rfl | decide) only [r27_0, r27_1, r27_4, r27_5, r27_8, r27_11, r27_12, r27_13, r27_14, r27_40, r27_41, r27_44, r27_45, r27_46, r27_49, r27_52, r27_53, r27_54, r27_57, r27_60, r27_61, r27_62, r27_65, r27_68, am_gf_3_0, am_gf_32_0, am_gf_33_0, am_gf_3_1, am_gf_32_1, am_gf_33_1, am_gf_3_2, am_gf_32_2, am_gf_33_2, am_gf_31_0, am_gf_31_1, am_nl_i, am_nl_r, am_nl_n, am_nl_l, Option.bind_some, Option.toList_some, Option.toList_none, List.cons_append, List.nil_append, if_true, if_false, Bool.false_eq_true, Int.reduceEq, Int.reduceAdd, ↓reduceIte, hk, h0, h1, h2, e, hz, am_sw, q0, q1, q2]
