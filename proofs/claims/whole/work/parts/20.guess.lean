/-! OtherName$Guessing -/
/-- the r-th such one of the first n -/
def selP (P : Nat → Bool) (r : Nat) : Nat → Nat
  | 0 => 0
  | n + 1 => if P n = true ∧ cnt P n = r then n else selP P r n
theorem selP_s (P : Nat → Bool) (r n : Nat) : selP P r (n + 1) = if P n = true ∧ cnt P n = r then n else selP P r n := rfl
theorem selP_at {P : Nat → Bool} {j n : Nat} (hj : j < n) (hp : P j = true) : selP P (cnt P j) n = j := by
  induction n with
  | zero => omega
  | succ n ih =>
    rw [selP_s]
    by_cases h : j = n
    · subst h; rw [if_pos ⟨hp, rfl⟩]
    · have := cnt_lt (show j < n by omega) hp
      rw [if_neg (fun q => by omega)]
      exact ih (by omega)
theorem selP_ok {P : Nat → Bool} {r n : Nat} (h : r < cnt P n) : selP P r n < n ∧ P (selP P r n) = true ∧ cnt P (selP P r n) = r := by
  obtain ⟨j, h1, h2, h3⟩ := cnt_sel h
  have := selP_at h1 h2
  rw [h3] at this
  rw [this]
  exact ⟨h1, h2, h3⟩
/-- the product of the first k -/
def prF (b : Nat → Nat) : Nat → Nat
  | 0 => 1
  | k + 1 => prF b k * b k
theorem prF_s (b : Nat → Nat) (k : Nat) : prF b (k + 1) = prF b k * b k := rfl
theorem prF_congr {b b' : Nat → Nat} {k : Nat} (h : ∀ j, j < k → b j = b' j) : prF b k = prF b' k := by
  induction k with
  | zero => rfl
  | succ k ih => rw [prF_s, prF_s, ih (fun j hj => h j (by omega)), h k (by omega)]
theorem prF_le {b : Nat → Nat} (hb : ∀ j, b j ≤ 12) : ∀ k, k ≤ 3 → prF b k ≤ 1728 := by
  intro k hk
  have h0 := hb 0
  have h1 := hb 1
  have h2 := hb 2
  have m1 : b 0 * b 1 ≤ 12 * 12 := Nat.mul_le_mul h0 h1
  have m2 : b 0 * b 1 * b 2 ≤ 12 * 12 * 12 := Nat.mul_le_mul m1 h2
  rcases (show k = 0 ∨ k = 1 ∨ k = 2 ∨ k = 3 by omega) with rfl | rfl | rfl | rfl
  · show 1 ≤ 1728; omega
  · show 1 * b 0 ≤ 1728; omega
  · show 1 * b 0 * b 1 ≤ 1728; rw [Nat.one_mul]; omega
  · show 1 * b 0 * b 1 * b 2 ≤ 1728; rw [Nat.one_mul]; omega
/-- how many men are ahead of the k-th gap -/
def bsS (gp mn : Nat → Bool) (n k : Nat) : Nat := cnt mn (selP gp k n)
theorem bsS_at {gp mn : Nat → Bool} {n i : Nat} (hi : i < n) (hg : gp i = true) : bsS gp mn n (cnt gp i) = cnt mn i := by
  unfold bsS; rw [selP_at hi hg]
theorem bsS_le {gp mn : Nat → Bool} {n : Nat} (h12 : n ≤ 12) (k : Nat) : bsS gp mn n k ≤ 12 := by
  unfold bsS
  have h : ∀ m, selP gp k m ≤ m := by
    intro m
    induction m with
    | zero => exact Nat.le_refl 0
    | succ m ih => rw [selP_s]; split <;> omega
  exact Nat.le_trans (cnt_le _ _) (Nat.le_trans (h n) h12)
theorem c_findGaps_loop {d n : Nat} {τ : Int64} {gp mn : Nat → Bool} (h12 : n ≤ 12) (h3 : cnt gp n ≤ 3) (hpos : ∀ i, i < n → gp i = true → 0 < cnt mn i) : ∀ k i (σ : am_St), i + k = n → σ 4 0 = nI n → (∀ j, j < n → (σ 9 j = 0) = (gp j = false) ∧ (σ 6 j = 0) = (mn j = true)) → σ 25 2 = nI (cnt gp i) → (∀ j, j < i → gp j = true → σ 27 (cnt gp j) = nI j ∧ σ 28 (cnt gp j) = nI (cnt mn j)) → (∀ j, j < i → mn j = true → σ 29 (cnt mn j) = nI j) →
    ∃ σ' : am_St, am_run d 21 11 [.ref 25, .int (nI (prF (bsS gp mn n) (cnt gp i))), .int (nI (cnt mn i)), .int (nI i)] [] σ τ = some (some (.int (nI (prF (bsS gp mn n) (cnt gp n)))), σ', τ) ∧ (∀ a, a ≠ 25 → a ≠ 27 → a ≠ 28 → a ≠ 29 → σ' a = σ a) ∧ σ' 25 2 = nI (cnt gp n) ∧ (∀ j, j < n → gp j = true → σ' 27 (cnt gp j) = nI j ∧ σ' 28 (cnt gp j) = nI (cnt mn j)) ∧ ∀ j, j < n → mn j = true → σ' 29 (cnt mn j) = nI j := by
  intro k
  induction k with
  | zero =>
    intro i σ hi hn hgm hq hat hmen
    have e : i = n := by omega
    subst e
    refine ⟨σ, ?_, fun _ _ _ _ _ => rfl, hq, hat, hmen⟩
    rw [r21_11]
    simp (disch := first | assumption | omega | rfl | exact Nat.le_of_ble_eq_true rfl | decide) only [r21_0, r21_1, r21_2, r21_5, r21_6, r21_7, r21_8, r21_9, r21_10, r21_12, r21_13, r21_16, r21_19, r21_22, r21_23, r21_26, r21_29, r21_30, r21_31, r21_34, r21_35, r21_38, r21_39, r21_42, r21_43, r21_46, r21_47, r21_50, r21_51, r21_54, r21_55, r21_56, r21_57, r21_60, r21_61, r21_64, r21_65, r21_66, r21_67, r21_67i, r21_68, r21_71, r21_72, r21_73, r21_76, r21_77, r21_78, r21_79, r21_80, r21_81, r21_84, r21_87, r21_88, r21_89, r21_92, r21_93, r21_96, r21_97, r21_98, r21_99, r21_102, r21_105, r21_108, r21_109, am_gf_4_0, am_gf_4_2, am_gf_4_5, am_gf_25_2, am_gf_25_3, am_gf_25_4, am_gf_25_5, am_gf_25_7, am_pf_25_2, am_ai_6, am_ai_9, am_ai_27, am_ai_28, am_ai_29, am_nl_i, am_nl_r, am_nl_n, am_nl_l, Option.bind_some, Option.toList_some, Option.toList_none, List.cons_append, List.nil_append, if_true, if_false, Bool.false_eq_true, Int.reduceEq, Int.reduceAdd, ↓reduceIte, hn, i_rf]
  | succ k ih =>
    intro i σ hi hn hgm hq hat hmen
    have hc : ¬ n ≤ i := by omega
    have hi12 : i < 12 := by omega
    obtain ⟨eg, em⟩ := hgm i (by omega)
    have hm12 : cnt mn i < 12 := Nat.lt_of_le_of_lt (cnt_le _ _) hi12
    -- behind the gap: the man
    have man : ∀ (σ1 : am_St) (t : Nat), (∀ a, a ≠ 25 → a ≠ 27 → a ≠ 28 → σ1 a = σ a) → t = prF (bsS gp mn n) (cnt gp (i + 1)) → σ1 25 2 = nI (cnt gp (i + 1)) → (∀ j, j < i + 1 → gp j = true → σ1 27 (cnt gp j) = nI j ∧ σ1 28 (cnt gp j) = nI (cnt mn j)) →
        ∃ σ' : am_St, am_run d 21 80 [.ref 25, .int (nI t), .int (nI (cnt mn i)), .int (nI i)] [] σ1 τ = some (some (.int (nI (prF (bsS gp mn n) (cnt gp n)))), σ', τ) ∧ (∀ a, a ≠ 25 → a ≠ 27 → a ≠ 28 → a ≠ 29 → σ' a = σ a) ∧ σ' 25 2 = nI (cnt gp n) ∧ (∀ j, j < n → gp j = true → σ' 27 (cnt gp j) = nI j ∧ σ' 28 (cnt gp j) = nI (cnt mn j)) ∧ ∀ j, j < n → mn j = true → σ' 29 (cnt mn j) = nI j := by
      intro σ1 t k1 ht hq1 hat1
      subst ht
      have e6 : σ1 6 i = σ 6 i := by rw [k1 6 (by decide) (by decide) (by decide)]
      cases hm : mn i with
      | true =>
        have h6 : σ 6 i = 0 := by rw [em]; exact hm
        have es : cnt mn (i + 1) = cnt mn i + 1 := by rw [cnt_s, hm]; rfl
        obtain ⟨σ', g1, g2, g3⟩ := ih (i + 1) (am_up σ1 29 (cnt mn i) (nI i)) (by omega) (by rw [am_up_ne (by decide), k1 4 (by decide) (by decide) (by decide)]; exact hn) (fun j hj => by rw [am_up_ne (by decide), am_up_ne (by decide), k1 9 (by decide) (by decide) (by decide), k1 6 (by decide) (by decide) (by decide)]; exact hgm j hj) (by rw [am_up_ne (by decide)]; exact hq1) (fun j hj hg => by rw [am_up_ne (by decide), am_up_ne (by decide)]; exact hat1 j hj hg) (fun j hj hmj => by
          rw [am_up_eq]
          by_cases hji : j = i
          · subst hji; rw [pk_us]
          · rw [pk_un (by have := cnt_lt (show j < i by omega) hmj; omega), k1 29 (by decide) (by decide) (by decide)]
            exact hmen j (by omega) hmj)
        refine ⟨σ', ?_, fun a x y z w => by rw [g2 a x y z w, am_up_ne w, k1 a x y z], g3⟩
        rw [← g1]
        simp (disch := first | assumption | omega | rfl | exact Nat.le_of_ble_eq_true rfl | decide) only [r21_0, r21_1, r21_2, r21_5, r21_6, r21_7, r21_8, r21_9, r21_10, r21_12, r21_13, r21_16, r21_19, r21_22, r21_23, r21_26, r21_29, r21_30, r21_31, r21_34, r21_35, r21_38, r21_39, r21_42, r21_43, r21_46, r21_47, r21_50, r21_51, r21_54, r21_55, r21_56, r21_57, r21_60, r21_61, r21_64, r21_65, r21_66, r21_67, r21_67i, r21_68, r21_71, r21_72, r21_73, r21_76, r21_77, r21_78, r21_79, r21_80, r21_81, r21_84, r21_87, r21_88, r21_89, r21_92, r21_93, r21_96, r21_97, r21_98, r21_99, r21_102, r21_105, r21_108, r21_109, am_gf_4_0, am_gf_4_2, am_gf_4_5, am_gf_25_2, am_gf_25_3, am_gf_25_4, am_gf_25_5, am_gf_25_7, am_pf_25_2, am_ai_6, am_ai_9, am_ai_27, am_ai_28, am_ai_29, am_nl_i, am_nl_r, am_nl_n, am_nl_l, Option.bind_some, Option.toList_some, Option.toList_none, List.cons_append, List.nil_append, if_true, if_false, Bool.false_eq_true, Int.reduceEq, Int.reduceAdd, ↓reduceIte, e6, h6, nI_1, es]
      | false =>
        have h6 : ¬ σ 6 i = 0 := by rw [em, hm]; decide
        have es : cnt mn (i + 1) = cnt mn i := by rw [cnt_s, hm]; rfl
        obtain ⟨σ', g1, g2, g3⟩ := ih (i + 1) σ1 (by omega) (by rw [k1 4 (by decide) (by decide) (by decide)]; exact hn) (fun j hj => by rw [k1 9 (by decide) (by decide) (by decide), k1 6 (by decide) (by decide) (by decide)]; exact hgm j hj) hq1 hat1 (fun j hj hmj => by
          rw [k1 29 (by decide) (by decide) (by decide)]
          by_cases hji : j = i
          · subst hji; rw [hm] at hmj; cases hmj
          · exact hmen j (by omega) hmj)
        refine ⟨σ', ?_, fun a x y z w => by rw [g2 a x y z w, k1 a x y z], g3⟩
        rw [← g1]
        simp (disch := first | assumption | omega | rfl | exact Nat.le_of_ble_eq_true rfl | decide) only [r21_0, r21_1, r21_2, r21_5, r21_6, r21_7, r21_8, r21_9, r21_10, r21_12, r21_13, r21_16, r21_19, r21_22, r21_23, r21_26, r21_29, r21_30, r21_31, r21_34, r21_35, r21_38, r21_39, r21_42, r21_43, r21_46, r21_47, r21_50, r21_51, r21_54, r21_55, r21_56, r21_57, r21_60, r21_61, r21_64, r21_65, r21_66, r21_67, r21_67i, r21_68, r21_71, r21_72, r21_73, r21_76, r21_77, r21_78, r21_79, r21_80, r21_81, r21_84, r21_87, r21_88, r21_89, r21_92, r21_93, r21_96, r21_97, r21_98, r21_99, r21_102, r21_105, r21_108, r21_109, am_gf_4_0, am_gf_4_2, am_gf_4_5, am_gf_25_2, am_gf_25_3, am_gf_25_4, am_gf_25_5, am_gf_25_7, am_pf_25_2, am_ai_6, am_ai_9, am_ai_27, am_ai_28, am_ai_29, am_nl_i, am_nl_r, am_nl_n, am_nl_l, Option.bind_some, Option.toList_some, Option.toList_none, List.cons_append, List.nil_append, if_true, if_false, Bool.false_eq_true, Int.reduceEq, Int.reduceAdd, ↓reduceIte, e6, h6, nI_1, es]
    cases hg : gp i with
    | true =>
      have h9 : ¬ σ 9 i = 0 := by rw [eg, hg]; decide
      have hlt := cnt_lt (show i < n by omega) hg
      have hl3 : ¬ 3 ≤ cnt gp i := by omega
      have hc3 : cnt gp i < 3 := by omega
      have hmp := hpos i (by omega) hg
      have hm0 : ¬ nI (cnt mn i) ≤ 0 := nI_nle hmp (by omega)
      have es : cnt gp (i + 1) = cnt gp i + 1 := by rw [cnt_s, hg]; rfl
      have hpl := prF_le (bsS_le (gp := gp) (mn := mn) h12) (cnt gp i) (by omega)
      obtain ⟨σ', g1, g2⟩ := man (am_up (am_up (am_up σ 27 (cnt gp i) (nI i)) 28 (cnt gp i) (nI (cnt mn i))) 25 2 (nI (cnt gp i + 1))) (prF (bsS gp mn n) (cnt gp i) * cnt mn i) (fun a x y z => by rw [am_up_ne x, am_up_ne z, am_up_ne y]) (by rw [es, prF_s, bsS_at (by omega) hg]) (by rw [am_up_eq, pk_us, es]) (fun j hj hgj => by
        rw [am_up_ne (by decide), am_up_ne (by decide), am_up_eq, am_up_ne (by decide), am_up_eq]
        by_cases hji : j = i
        · subst hji; rw [pk_us, pk_us]; exact ⟨rfl, rfl⟩
        · have := cnt_lt (show j < i by omega) hgj
          rw [pk_un (by omega), pk_un (by omega)]
          exact hat j (by omega) hgj)
      refine ⟨σ', ?_, g2⟩
      rw [← g1, r21_11]
      simp (disch := first | assumption | omega | rfl | exact Nat.le_of_ble_eq_true rfl | decide) only [r21_0, r21_1, r21_2, r21_5, r21_6, r21_7, r21_8, r21_9, r21_10, r21_12, r21_13, r21_16, r21_19, r21_22, r21_23, r21_26, r21_29, r21_30, r21_31, r21_34, r21_35, r21_38, r21_39, r21_42, r21_43, r21_46, r21_47, r21_50, r21_51, r21_54, r21_55, r21_56, r21_57, r21_60, r21_61, r21_64, r21_65, r21_66, r21_67, r21_67i, r21_68, r21_71, r21_72, r21_73, r21_76, r21_77, r21_78, r21_79, r21_81, r21_84, r21_87, r21_88, r21_89, r21_92, r21_93, r21_96, r21_97, r21_98, r21_99, r21_102, r21_105, r21_108, r21_109, am_gf_4_0, am_gf_4_2, am_gf_4_5, am_gf_25_2, am_gf_25_3, am_gf_25_4, am_gf_25_5, am_gf_25_7, am_pf_25_2, am_ai_6, am_ai_9, am_ai_27, am_ai_28, am_ai_29, am_nl_i, am_nl_r, am_nl_n, am_nl_l, Option.bind_some, Option.toList_some, Option.toList_none, List.cons_append, List.nil_append, if_true, if_false, Bool.false_eq_true, Int.reduceEq, Int.reduceAdd, ↓reduceIte, hn, ni_le, hc, h9, hq, show (3 : Int32) = nI 3 from rfl, hl3, hm0, am_up_ne, nI_1, pk_mul]
    | false =>
      have h9 : σ 9 i = 0 := by rw [eg]; exact hg
      have es : cnt gp (i + 1) = cnt gp i := by rw [cnt_s, hg]; rfl
      obtain ⟨σ', g1, g2⟩ := man σ (prF (bsS gp mn n) (cnt gp i)) (fun _ _ _ _ => rfl) (by rw [es]) (by rw [es]; exact hq) (fun j hj hgj => by
        by_cases hji : j = i
        · subst hji; rw [hg] at hgj; cases hgj
        · exact hat j (by omega) hgj)
      refine ⟨σ', ?_, g2⟩
      rw [← g1, r21_11]
      simp (disch := first | assumption | omega | rfl | exact Nat.le_of_ble_eq_true rfl | decide) only [r21_0, r21_1, r21_2, r21_5, r21_6, r21_7, r21_8, r21_9, r21_10, r21_12, r21_13, r21_16, r21_19, r21_22, r21_23, r21_26, r21_29, r21_30, r21_31, r21_34, r21_35, r21_38, r21_39, r21_42, r21_43, r21_46, r21_47, r21_50, r21_51, r21_54, r21_55, r21_56, r21_57, r21_60, r21_61, r21_64, r21_65, r21_66, r21_67, r21_67i, r21_68, r21_71, r21_72, r21_73, r21_76, r21_77, r21_78, r21_79, r21_81, r21_84, r21_87, r21_88, r21_89, r21_92, r21_93, r21_96, r21_97, r21_98, r21_99, r21_102, r21_105, r21_108, r21_109, am_gf_4_0, am_gf_4_2, am_gf_4_5, am_gf_25_2, am_gf_25_3, am_gf_25_4, am_gf_25_5, am_gf_25_7, am_pf_25_2, am_ai_6, am_ai_9, am_ai_27, am_ai_28, am_ai_29, am_nl_i, am_nl_r, am_nl_n, am_nl_l, Option.bind_some, Option.toList_some, Option.toList_none, List.cons_append, List.nil_append, if_true, if_false, Bool.false_eq_true, Int.reduceEq, Int.reduceAdd, ↓reduceIte, hn, ni_le, hc, h9]
theorem c_findGaps {d n : Nat} {σ : am_St} {τ : Int64} {gp mn : Nat → Bool} (h12 : n ≤ 12) (h3 : cnt gp n ≤ 3) (hpos : ∀ i, i < n → gp i = true → 0 < cnt mn i) (hn : σ 4 0 = nI n) (hgm : ∀ j, j < n → (σ 9 j = 0) = (gp j = false) ∧ (σ 6 j = 0) = (mn j = true)) :
    ∃ σ' : am_St, am_call d 21 [.ref 25] σ τ = some (some (.int (nI (prF (bsS gp mn n) (cnt gp n)))), σ', τ) ∧ (∀ a, a ≠ 25 → a ≠ 27 → a ≠ 28 → a ≠ 29 → σ' a = σ a) ∧ σ' 25 2 = nI (cnt gp n) ∧ (∀ j, j < n → gp j = true → σ' 27 (cnt gp j) = nI j ∧ σ' 28 (cnt gp j) = nI (cnt mn j)) ∧ ∀ j, j < n → mn j = true → σ' 29 (cnt mn j) = nI j := by
  obtain ⟨σ', g1, g2, g3⟩ := c_findGaps_loop (d := d) (τ := τ) h12 h3 hpos n 0 (am_up σ 25 2 0) (by omega) (by rw [am_up_ne (by decide)]; exact hn) (fun j hj => by rw [am_up_ne (by decide), am_up_ne (by decide)]; exact hgm j hj) (by rw [am_up_eq, pk_us]; rfl) (fun j hj => by omega) (fun j hj => by omega)
  refine ⟨σ', ?_, fun a x y z w => by rw [g2 a x y z w, am_up_ne x], g3⟩
  show am_run d 21 0 [.ref 25, .null, .null, .null] [] σ τ = _
  simp (disch := first | assumption | omega | rfl | exact Nat.le_of_ble_eq_true rfl | decide) only [r21_0, r21_1, r21_2, r21_5, r21_6, r21_7, r21_8, r21_9, r21_10, r21_12, r21_13, r21_16, r21_19, r21_22, r21_23, r21_26, r21_29, r21_30, r21_31, r21_34, r21_35, r21_38, r21_39, r21_42, r21_43, r21_46, r21_47, r21_50, r21_51, r21_54, r21_55, r21_56, r21_57, r21_60, r21_61, r21_64, r21_65, r21_66, r21_67, r21_67i, r21_68, r21_71, r21_72, r21_73, r21_76, r21_77, r21_78, r21_79, r21_80, r21_81, r21_84, r21_87, r21_88, r21_89, r21_92, r21_93, r21_96, r21_97, r21_98, r21_99, r21_102, r21_105, r21_108, r21_109, am_gf_4_0, am_gf_4_2, am_gf_4_5, am_gf_25_2, am_gf_25_3, am_gf_25_4, am_gf_25_5, am_gf_25_7, am_pf_25_2, am_ai_6, am_ai_9, am_ai_27, am_ai_28, am_ai_29, am_nl_i, am_nl_r, am_nl_n, am_nl_l, Option.bind_some, Option.toList_some, Option.toList_none, List.cons_append, List.nil_append, if_true, if_false, Bool.false_eq_true, Int.reduceEq, Int.reduceAdd, ↓reduceIte]
  exact g1
