/-! OtherName$Couples: findsWife, mostFrom -/
def upB (A : Nat → Bool) (i : Nat) : Nat → Bool := fun j => if j = i then true else A j
def upM (M : Nat → Option Nat) (i m : Nat) : Nat → Option Nat := fun j => if j = i then some m else M j
abbrev fwR : Type := Bool × (Nat → Bool) × (Nat → Option Nat)
/-- the search of one man, woman by woman -/
def fwL (ad : Nat → Nat → Bool) (rc : Nat → (Nat → Bool) → (Nat → Option Nat) → fwR) (m : Nat) : Nat → Nat → (Nat → Bool) → (Nat → Option Nat) → fwR
  | 0, _, A, M => (false, A, M)
  | k + 1, i, A, M => if ad m i = true ∧ A i = false then (match M i with
      | none => (true, upB A i, upM M i m)
      | some h => if (rc h (upB A i) M).1 = true then (true, (rc h (upB A i) M).2.1, upM (rc h (upB A i) M).2.2 i m) else fwL ad rc m k (i + 1) (rc h (upB A i) M).2.1 (rc h (upB A i) M).2.2)
    else fwL ad rc m k (i + 1) A M
def fwF (n : Nat) (ad : Nat → Nat → Bool) : Nat → Nat → (Nat → Bool) → (Nat → Option Nat) → fwR
  | 0, _, A, M => (false, A, M)
  | e + 1, m, A, M => fwL ad (fwF n ad e) m n 0 A M
def eO (x : Option Nat) : Int32 := match x with
  | none => -1
  | some h => nI h
/-- the asked women, the husbands -/
def KR (n : Nat) (σ : am_St) (A : Nat → Bool) (M : Nat → Option Nat) : Prop := (∀ j, j < n → bt (σ 34 4) j = A j) ∧ (∀ j, j < n → σ 37 j = eO (M j)) ∧ ∀ j h, j < n → M j = some h → h < n
def KF (σ σ' : am_St) : Prop := (∀ c, c ≠ 34 → c ≠ 37 → σ' c = σ c) ∧ ∀ j, j ≠ 4 → σ' 34 j = σ 34 j
theorem KF.rf {σ : am_St} : KF σ σ := ⟨fun _ _ _ => rfl, fun _ _ => rfl⟩
theorem KF.tr {σ σ1 σ2 : am_St} (h : KF σ σ1) (h2 : KF σ1 σ2) : KF σ σ2 := ⟨fun c x y => by rw [h2.1 c x y, h.1 c x y], fun j x => by rw [h2.2 j x, h.2 j x]⟩
theorem KR.ask {n i : Nat} {σ : am_St} {A : Nat → Bool} {M : Nat → Option Nat} (h : KR n σ A M) (h12 : n ≤ 12) (hi : i < n) : KR n (am_up σ 34 4 (σ 34 4 ||| ((1 : Int32) <<< (nI i &&& 31)))) (upB A i) M := by
  refine ⟨fun j hj => ?_, fun j hj => by rw [am_up_ne (by decide)]; exact h.2.1 j hj, h.2.2⟩
  rw [am_up_eq, pk_us, bt_or1 (by omega) (by omega), h.1 j hj]
  unfold upB
  by_cases e : j = i <;> simp [e]
theorem KR.put {n i m : Nat} {σ : am_St} {A : Nat → Bool} {M : Nat → Option Nat} (h : KR n σ A M) (hi : i < n) (hm : m < n) : KR n (am_up σ 37 i (nI m)) A (upM M i m) := by
  refine ⟨fun j hj => by rw [am_up_ne (by decide)]; exact h.1 j hj, fun j hj => ?_, fun j x hj hx => ?_⟩
  · rw [am_up_eq]
    unfold upM upd
    split
    · rfl
    · exact h.2.1 j hj
  · unfold upM at hx
    split at hx
    · cases hx; exact hm
    · exact h.2.2 j x hj hx
/-- what a call of findsWife with e levels left does -/
def KC (d n e : Nat) (ad : Nat → Nat → Bool) : Prop := ∀ (dl m : Nat) (σ : am_St) (τ : Int64) (A : Nat → Bool) (M : Nat → Option Nat), e + dl = 13 → m < n → σ 4 0 = nI n → (∀ a, a < n → ∀ j, j < n → bt (σ 36 a) j = ad a j) → KR n σ A M → ∃ σ' : am_St, am_call (d + e) 5 [.ref 34, .int (nI m), .int (nI dl)] σ τ = some (some (.int (if (fwF n ad e m A M).1 = true then 1 else 0)), σ', τ) ∧ KF σ σ' ∧ KR n σ' (fwF n ad e m A M).2.1 (fwF n ad e m A M).2.2
theorem c_fw_loop {d n e dl m : Nat} {τ : Int64} {ad : Nat → Nat → Bool} (h12 : n ≤ 12) (hm : m < n) (hd : e + 1 + dl = 13) (rc : KC d n e ad) : ∀ k i (v4 : Value) (σ : am_St) (A : Nat → Bool) (M : Nat → Option Nat), i + k = n → σ 4 0 = nI n → (∀ a, a < n → ∀ j, j < n → bt (σ 36 a) j = ad a j) → KR n σ A M → ∃ σ' : am_St, am_run (d + e + 1) 5 14 [.ref 34, .int (nI m), .int (nI dl), .int (nI i), v4] [] σ τ = some (some (.int (if (fwL ad (fwF n ad e) m k i A M).1 = true then 1 else 0)), σ', τ) ∧ KF σ σ' ∧ KR n σ' (fwL ad (fwF n ad e) m k i A M).2.1 (fwL ad (fwF n ad e) m k i A M).2.2 := by
  intro k
  have hm12 : m < 12 := by omega
  induction k with
  | zero =>
    intro i v4 σ A M hi hn had hR
    have e1 : i = n := by omega
    subst e1
    refine ⟨σ, ?_, KF.rf, hR⟩
    rw [r5_14]
    simp (disch := first | assumption | omega | rfl | exact Nat.le_of_ble_eq_true rfl | decide) only [r5_0, r5_1, r5_4, r5_5, r5_7, r5_10, r5_11, r5_12, r5_13, r5_15, r5_16, r5_19, r5_22, r5_25, r5_26, r5_27, r5_28, r5_30, r5_31, r5_34, r5_35, r5_36, r5_37, r5_40, r5_41, r5_42, r5_43, r5_45, r5_46, r5_49, r5_50, r5_50i, r5_51, r5_54, r5_56, r5_57, r5_60, r5_61, r5_64, r5_65, r5_66, r5_67, r5_70, r5_71, r5_72, r5_75, r5_76, r5_77, r5_78, r5_79, r5_80, r5_83, r5_86, r5_87, r5_90, r5_91, r5_92, r5_93, r5_94, r5_95, r5_98, r5_101, r5_102, am_gf_34_2, am_gf_34_3, am_gf_34_4, am_gf_34_5, am_gf_4_0, am_pf_34_4, am_ai_36, am_ai_37, am_nl_i, am_nl_r, am_nl_n, am_nl_l, Option.bind_some, Option.toList_some, Option.toList_none, List.cons_append, List.nil_append, if_true, if_false, Bool.false_eq_true, Int.reduceEq, Int.reduceAdd, ↓reduceIte, hn, i_rf, fwL]
  | succ k ih =>
    intro i v4 σ A M hi hn had hR
    have hc : ¬ n ≤ i := by omega
    have hi12 : i < 12 := by omega
    have hin : i < n := by omega
    have ht := bt_test (a := σ 36 m) (b := σ 34 4) (i := i) (by omega)
    rw [had m hm i hin, hR.1 i hin] at ht
    unfold fwL
    by_cases hx : ad m i = true ∧ A i = false
    · have ht2 : ¬ ((σ 36 m &&& (σ 34 4 ^^^ (-1))) &&& ((1 : Int32) <<< (nI i &&& 31)) = 0) := by rw [ht]; exact fun q => q hx
      have hR1 := hR.ask h12 hin
      simp only [hx, if_true, and_self]
      have h37 := hR.2.1 i hin
      cases hM : M i with
      | none =>
        rw [hM] at h37
        have h37' : σ 37 i = -1 := h37
        refine ⟨am_up (am_up σ 34 4 (σ 34 4 ||| ((1 : Int32) <<< (nI i &&& 31)))) 37 i (nI m), ?_, ⟨fun c x y => by rw [am_up_ne y, am_up_ne x], fun j x => by rw [am_up_ne (by decide), am_up_eq, pk_un x]⟩, hR1.put hin hm⟩
        rw [r5_14]
        simp (disch := first | assumption | omega | rfl | exact Nat.le_of_ble_eq_true rfl | decide) only [r5_0, r5_1, r5_4, r5_5, r5_7, r5_10, r5_11, r5_12, r5_13, r5_15, r5_16, r5_19, r5_22, r5_25, r5_26, r5_27, r5_28, r5_30, r5_31, r5_34, r5_35, r5_36, r5_37, r5_40, r5_41, r5_42, r5_43, r5_45, r5_46, r5_49, r5_50, r5_50i, r5_51, r5_54, r5_56, r5_57, r5_60, r5_61, r5_64, r5_65, r5_66, r5_67, r5_70, r5_71, r5_72, r5_75, r5_76, r5_77, r5_78, r5_79, r5_80, r5_83, r5_86, r5_87, r5_90, r5_91, r5_92, r5_93, r5_94, r5_95, r5_98, r5_101, r5_102, am_gf_34_2, am_gf_34_3, am_gf_34_4, am_gf_34_5, am_gf_4_0, am_pf_34_4, am_ai_36, am_ai_37, am_nl_i, am_nl_r, am_nl_n, am_nl_l, Option.bind_some, Option.toList_some, Option.toList_none, List.cons_append, List.nil_append, if_true, if_false, Bool.false_eq_true, Int.reduceEq, Int.reduceAdd, ↓reduceIte, hn, ni_le, hc, ht2, am_up_ne, h37']
      | some h =>
        rw [hM] at h37
        have h37' : σ 37 i = nI h := h37
        have hhn := hR.2.2 i h hin hM
        have hne : ¬ nI h = -1 := am_nm1 (by omega)
        obtain ⟨σ1, a1, a2, a3⟩ := rc (dl + 1) h (am_up σ 34 4 (σ 34 4 ||| ((1 : Int32) <<< (nI i &&& 31)))) τ (upB A i) M (by omega) hhn (by rw [am_up_ne (by decide)]; exact hn) (fun a ha j hj => by rw [am_up_ne (by decide)]; exact had a ha j hj) hR1
        have f1 : KF σ σ1 := KF.tr ⟨fun c x y => by rw [am_up_ne x], fun j x => by rw [am_up_eq, pk_un x]⟩ a2
        have e10 : ¬ (1 : Int32) = 0 := by decide
        dsimp only
        by_cases hb : (fwF n ad e h (upB A i) M).1 = true
        · rw [if_pos hb] at a1
          simp only [if_pos hb, if_true]
          refine ⟨am_up σ1 37 i (nI m), ?_, KF.tr f1 ⟨fun c x y => by rw [am_up_ne y], fun j x => by rw [am_up_ne (by decide)]⟩, a3.put hin hm⟩
          rw [r5_14]
          simp (disch := first | assumption | omega | rfl | exact Nat.le_of_ble_eq_true rfl | decide) only [r5_0, r5_1, r5_4, r5_5, r5_7, r5_10, r5_11, r5_12, r5_13, r5_15, r5_16, r5_19, r5_22, r5_25, r5_26, r5_27, r5_28, r5_30, r5_31, r5_34, r5_35, r5_36, r5_37, r5_40, r5_41, r5_42, r5_43, r5_45, r5_46, r5_49, r5_50, r5_50i, r5_51, r5_54, r5_56, r5_57, r5_60, r5_61, r5_64, r5_65, r5_66, r5_67, r5_70, r5_71, r5_72, r5_75, r5_76, r5_77, r5_78, r5_79, r5_80, r5_83, r5_86, r5_87, r5_90, r5_91, r5_92, r5_93, r5_94, r5_95, r5_98, r5_101, r5_102, am_gf_34_2, am_gf_34_3, am_gf_34_4, am_gf_34_5, am_gf_4_0, am_pf_34_4, am_ai_36, am_ai_37, am_nl_i, am_nl_r, am_nl_n, am_nl_l, Option.bind_some, Option.toList_some, Option.toList_none, List.cons_append, List.nil_append, if_true, if_false, Bool.false_eq_true, Int.reduceEq, Int.reduceAdd, ↓reduceIte, hn, ni_le, hc, ht2, am_up_ne, h37', hne, nI_1, a1, e10]
        · rw [if_neg hb] at a1
          simp only [if_neg hb]
          obtain ⟨σ', g1, g2, g3⟩ := ih (i + 1) (.int ((1 : Int32) <<< (nI i &&& 31))) σ1 _ _ (by omega) (by rw [f1.1 4 (by decide) (by decide)]; exact hn) (fun a ha j hj => by rw [f1.1 36 (by decide) (by decide)]; exact had a ha j hj) a3
          refine ⟨σ', ?_, f1.tr g2, g3⟩
          rw [← g1, r5_14]
          simp (disch := first | assumption | omega | rfl | exact Nat.le_of_ble_eq_true rfl | decide) only [r5_0, r5_1, r5_4, r5_5, r5_7, r5_10, r5_11, r5_12, r5_13, r5_15, r5_16, r5_19, r5_22, r5_25, r5_26, r5_27, r5_28, r5_30, r5_31, r5_34, r5_35, r5_36, r5_37, r5_40, r5_41, r5_42, r5_43, r5_45, r5_46, r5_49, r5_50, r5_50i, r5_51, r5_54, r5_56, r5_57, r5_60, r5_61, r5_64, r5_65, r5_66, r5_67, r5_70, r5_71, r5_72, r5_75, r5_76, r5_77, r5_78, r5_79, r5_80, r5_83, r5_86, r5_87, r5_90, r5_91, r5_92, r5_93, r5_94, r5_95, r5_98, r5_101, r5_102, am_gf_34_2, am_gf_34_3, am_gf_34_4, am_gf_34_5, am_gf_4_0, am_pf_34_4, am_ai_36, am_ai_37, am_nl_i, am_nl_r, am_nl_n, am_nl_l, Option.bind_some, Option.toList_some, Option.toList_none, List.cons_append, List.nil_append, if_true, if_false, Bool.false_eq_true, Int.reduceEq, Int.reduceAdd, ↓reduceIte, hn, ni_le, hc, ht2, am_up_ne, h37', hne, nI_1, a1]
    · have ht2 : (σ 36 m &&& (σ 34 4 ^^^ (-1))) &&& ((1 : Int32) <<< (nI i &&& 31)) = 0 := by rw [ht]; exact hx
      obtain ⟨σ', g1, g2, g3⟩ := ih (i + 1) (.int ((1 : Int32) <<< (nI i &&& 31))) σ A M (by omega) hn had hR
      simp only [hx, if_false]
      refine ⟨σ', ?_, g2, g3⟩
      rw [← g1, r5_14]
      simp (disch := first | assumption | omega | rfl | exact Nat.le_of_ble_eq_true rfl | decide) only [r5_0, r5_1, r5_4, r5_5, r5_7, r5_10, r5_11, r5_12, r5_13, r5_15, r5_16, r5_19, r5_22, r5_25, r5_26, r5_27, r5_28, r5_30, r5_31, r5_34, r5_35, r5_36, r5_37, r5_40, r5_41, r5_42, r5_43, r5_45, r5_46, r5_49, r5_50, r5_50i, r5_51, r5_54, r5_56, r5_57, r5_60, r5_61, r5_64, r5_65, r5_66, r5_67, r5_70, r5_71, r5_72, r5_75, r5_76, r5_77, r5_78, r5_79, r5_80, r5_83, r5_86, r5_87, r5_90, r5_91, r5_92, r5_93, r5_94, r5_95, r5_98, r5_101, r5_102, am_gf_34_2, am_gf_34_3, am_gf_34_4, am_gf_34_5, am_gf_4_0, am_pf_34_4, am_ai_36, am_ai_37, am_nl_i, am_nl_r, am_nl_n, am_nl_l, Option.bind_some, Option.toList_some, Option.toList_none, List.cons_append, List.nil_append, if_true, if_false, Bool.false_eq_true, Int.reduceEq, Int.reduceAdd, ↓reduceIte, hn, ni_le, hc, ht2, nI_1]
theorem c_fw {d n : Nat} {ad : Nat → Nat → Bool} (h12 : n ≤ 12) : ∀ e, KC d n e ad := by
  intro e
  induction e with
  | zero =>
    intro dl m σ τ A M he hm hn had hR
    refine ⟨σ, ?_, KF.rf, hR⟩
    have e1 : dl = 13 := by omega
    subst e1
    show am_run (d + 0) 5 0 [.ref 34, .int (nI m), .int (nI 13), .null, .null] [] σ τ = _
    have h1 : ¬ nI m < 0 := nI_pos (by omega)
    have h2 : ¬ nI 13 ≤ 12 := by decide
    simp (disch := first | assumption | omega | rfl | exact Nat.le_of_ble_eq_true rfl | decide) only [r5_0, r5_1, r5_4, r5_5, r5_7, r5_10, r5_11, r5_12, r5_13, r5_15, r5_16, r5_19, r5_22, r5_25, r5_26, r5_27, r5_28, r5_30, r5_31, r5_34, r5_35, r5_36, r5_37, r5_40, r5_41, r5_42, r5_43, r5_45, r5_46, r5_49, r5_50, r5_50i, r5_51, r5_54, r5_56, r5_57, r5_60, r5_61, r5_64, r5_65, r5_66, r5_67, r5_70, r5_71, r5_72, r5_75, r5_76, r5_77, r5_78, r5_79, r5_80, r5_83, r5_86, r5_87, r5_90, r5_91, r5_92, r5_93, r5_94, r5_95, r5_98, r5_101, r5_102, am_gf_34_2, am_gf_34_3, am_gf_34_4, am_gf_34_5, am_gf_4_0, am_pf_34_4, am_ai_36, am_ai_37, am_nl_i, am_nl_r, am_nl_n, am_nl_l, Option.bind_some, Option.toList_some, Option.toList_none, List.cons_append, List.nil_append, if_true, if_false, Bool.false_eq_true, Int.reduceEq, Int.reduceAdd, ↓reduceIte, h1, h2, fwF]
  | succ e ih =>
    intro dl m σ τ A M he hm hn had hR
    obtain ⟨σ', g1, g2, g3⟩ := c_fw_loop (d := d) (τ := τ) (dl := dl) h12 hm he ih n 0 .null σ A M (by omega) hn had hR
    refine ⟨σ', ?_, g2, g3⟩
    show am_run (d + e + 1) 5 0 [.ref 34, .int (nI m), .int (nI dl), .null, .null] [] σ τ = _
    have h1 : ¬ nI m < 0 := nI_pos (by omega)
    have h2 : dl ≤ 12 := by omega
    simp (disch := first | assumption | omega | rfl | exact Nat.le_of_ble_eq_true rfl | decide) only [r5_0, r5_1, r5_4, r5_5, r5_7, r5_10, r5_11, r5_12, r5_13, r5_15, r5_16, r5_19, r5_22, r5_25, r5_26, r5_27, r5_28, r5_30, r5_31, r5_34, r5_35, r5_36, r5_37, r5_40, r5_41, r5_42, r5_43, r5_45, r5_46, r5_49, r5_50, r5_50i, r5_51, r5_54, r5_56, r5_57, r5_60, r5_61, r5_64, r5_65, r5_66, r5_67, r5_70, r5_71, r5_72, r5_75, r5_76, r5_77, r5_78, r5_79, r5_80, r5_83, r5_86, r5_87, r5_90, r5_91, r5_92, r5_93, r5_94, r5_95, r5_98, r5_101, r5_102, am_gf_34_2, am_gf_34_3, am_gf_34_4, am_gf_34_5, am_gf_4_0, am_pf_34_4, am_ai_36, am_ai_37, am_nl_i, am_nl_r, am_nl_n, am_nl_l, Option.bind_some, Option.toList_some, Option.toList_none, List.cons_append, List.nil_append, if_true, if_false, Bool.false_eq_true, Int.reduceEq, Int.reduceAdd, ↓reduceIte, h1, show (12 : Int32) = nI 12 from rfl, ni_le, h2]
    exact g1
/-- the most couples of the men from a number on: man by man -/
def mfF (n : Nat) (ad : Nat → Nat → Bool) (U : Nat → Bool) : Nat → Nat → (Nat → Option Nat) → Nat → Nat × (Nat → Option Nat)
  | 0, _, M, c => (c, M)
  | k + 1, m, M, c => mfF n ad U k (m + 1) (fwF n ad 13 m U M).2.2 (c + if (fwF n ad 13 m U M).1 = true then 1 else 0)
theorem c_mf_loop {d n : Nat} {τ : Int64} {ad : Nat → Nat → Bool} {U : Nat → Bool} {tk : Int32} {v1 : Value} (hv : am_nl v1 = v1) (h12 : n ≤ 12) (hU : ∀ j, j < n → bt tk j = U j) : ∀ k m (c : Nat) (σ : am_St) (M : Nat → Option Nat), m + k = n → c ≤ m → σ 4 0 = nI n → (∀ a, a < n → ∀ j, j < n → bt (σ 36 a) j = ad a j) → (∀ j, j < n → σ 37 j = eO (M j)) → (∀ j h, j < n → M j = some h → h < n) → ∃ σ' : am_St, am_run (d + 14) 4 26 [.ref 34, v1, .int tk, .int (nI c), .int (nI m)] [] σ τ = some (some (.int (nI (mfF n ad U k m M c).1)), σ', τ) ∧ KF σ σ' := by
  intro k
  induction k with
  | zero =>
    intro m c σ M hm hcm hn had hH hMn
    have e1 : m = n := by omega
    subst e1
    refine ⟨σ, ?_, KF.rf⟩
    rw [r4_26]
    simp (disch := first | assumption | omega | rfl | exact Nat.le_of_ble_eq_true rfl | decide) only [r4_0, r4_1, r4_2, r4_3, r4_5, r4_8, r4_9, r4_12, r4_13, r4_14, r4_15, r4_18, r4_21, r4_22, r4_23, r4_24, r4_28, r4_29, r4_32, r4_35, r4_38, r4_39, r4_40, r4_43, r4_44, r4_45, r4_47, r4_48, r4_51, r4_54, r4_55, r4_58, r4_59, r4_60, r4_61, r4_64, r4_67, r4_68, am_gf_34_3, am_gf_34_5, am_gf_4_0, am_pf_34_4, am_ai_37, am_nl_i, am_nl_r, am_nl_n, am_nl_l, Option.bind_some, Option.toList_some, Option.toList_none, List.cons_append, List.nil_append, if_true, if_false, Bool.false_eq_true, Int.reduceEq, Int.reduceAdd, ↓reduceIte, hn, i_rf, mfF]
  | succ k ih =>
    intro m c σ M hm hcm hn had hH hMn
    have hc : ¬ n ≤ m := by omega
    have hR : KR n (am_up σ 34 4 tk) U M := ⟨fun j hj => by rw [am_up_eq, pk_us]; exact hU j hj, fun j hj => by rw [am_up_ne (by decide)]; exact hH j hj, hMn⟩
    obtain ⟨σ1, a1, a2, a3⟩ := c_fw (d := d) (ad := ad) h12 13 0 m (am_up σ 34 4 tk) τ U M (by omega) (by omega) (by rw [am_up_ne (by decide)]; exact hn) (fun a ha j hj => by rw [am_up_ne (by decide)]; exact had a ha j hj) hR
    have f1 : KF σ σ1 := KF.tr ⟨fun c x y => by rw [am_up_ne x], fun j x => by rw [am_up_eq, pk_un x]⟩ a2
    have e10 : ¬ (1 : Int32) = 0 := by decide
    unfold mfF
    obtain ⟨σ', g1, g2⟩ := ih (m + 1) (c + if (fwF n ad 13 m U M).1 = true then 1 else 0) σ1 (fwF n ad 13 m U M).2.2 (by omega) (by split <;> omega) (by rw [f1.1 4 (by decide) (by decide)]; exact hn) (fun a ha j hj => by rw [f1.1 36 (by decide) (by decide)]; exact had a ha j hj) a3.2.1 a3.2.2
    refine ⟨σ', ?_, f1.tr g2⟩
    rw [← g1, r4_26]
    have ez : nI 0 = 0 := rfl
    rw [ez] at a1
    cases hb : (fwF n ad 13 m U M).1 with
    | true =>
      rw [hb] at a1
      simp (disch := first | assumption | omega | rfl | exact Nat.le_of_ble_eq_true rfl | decide) only [r4_0, r4_1, r4_2, r4_3, r4_5, r4_8, r4_9, r4_12, r4_13, r4_14, r4_15, r4_18, r4_21, r4_22, r4_23, r4_24, r4_28, r4_29, r4_32, r4_35, r4_38, r4_39, r4_40, r4_43, r4_44, r4_45, r4_47, r4_48, r4_51, r4_54, r4_55, r4_58, r4_59, r4_60, r4_61, r4_64, r4_67, r4_68, am_gf_34_3, am_gf_34_5, am_gf_4_0, am_pf_34_4, am_ai_37, am_nl_i, am_nl_r, am_nl_n, am_nl_l, Option.bind_some, Option.toList_some, Option.toList_none, List.cons_append, List.nil_append, if_true, if_false, Bool.false_eq_true, Int.reduceEq, Int.reduceAdd, ↓reduceIte, hn, ni_le, hc, a1, e10, nI_1]
    | false =>
      rw [hb] at a1
      simp (disch := first | assumption | omega | rfl | exact Nat.le_of_ble_eq_true rfl | decide) only [r4_0, r4_1, r4_2, r4_3, r4_5, r4_8, r4_9, r4_12, r4_13, r4_14, r4_15, r4_18, r4_21, r4_22, r4_23, r4_24, r4_28, r4_29, r4_32, r4_35, r4_38, r4_39, r4_40, r4_43, r4_44, r4_45, r4_47, r4_48, r4_51, r4_54, r4_55, r4_58, r4_59, r4_60, r4_61, r4_64, r4_67, r4_68, am_gf_34_3, am_gf_34_5, am_gf_4_0, am_pf_34_4, am_ai_37, am_nl_i, am_nl_r, am_nl_n, am_nl_l, Option.bind_some, Option.toList_some, Option.toList_none, List.cons_append, List.nil_append, if_true, if_false, Bool.false_eq_true, Int.reduceEq, Int.reduceAdd, ↓reduceIte, hn, ni_le, hc, a1, nI_1, Nat.add_zero, show ∀ x : Int32, x + 0 = x from fun x => by simp]
theorem c_mf_init {d : Nat} {τ : Int64} {v1 v2 v4 : Value} (hv : am_nl v2 = v2) : ∀ k i (σ : am_St), i + k = 12 → (∀ j, j < i → σ 37 j = -1) → ∃ σ' : am_St, am_run d 4 2 [.ref 34, v1, v2, .int (nI i), v4] [] σ τ = am_run d 4 21 [.ref 34, v1, v2, .int (nI 12), v4] [] σ' τ ∧ (∀ a, a ≠ 37 → σ' a = σ a) ∧ ∀ j, j < 12 → σ' 37 j = -1 := by
  intro k
  induction k with
  | zero =>
    intro i σ hi hC
    have e : i = 12 := by omega
    subst e
    refine ⟨σ, ?_, fun _ _ => rfl, hC⟩
    rw [r4_2]
    simp (disch := first | assumption | omega | rfl | exact Nat.le_of_ble_eq_true rfl | decide) only [r4_0, r4_1, r4_3, r4_5, r4_8, r4_9, r4_12, r4_13, r4_14, r4_15, r4_18, r4_22, r4_23, r4_24, r4_26, r4_28, r4_29, r4_32, r4_35, r4_38, r4_39, r4_40, r4_43, r4_44, r4_45, r4_47, r4_48, r4_51, r4_54, r4_55, r4_58, r4_59, r4_60, r4_61, r4_64, r4_67, r4_68, am_gf_34_3, am_gf_34_5, am_gf_4_0, am_pf_34_4, am_ai_37, am_nl_i, am_nl_r, am_nl_n, am_nl_l, Option.bind_some, Option.toList_some, Option.toList_none, List.cons_append, List.nil_append, if_true, if_false, Bool.false_eq_true, Int.reduceEq, Int.reduceAdd, ↓reduceIte, show (12 : Int32) = nI 12 from rfl, i_rf]
  | succ k ih =>
    intro i σ hi hC
    have hc : ¬ 12 ≤ i := by omega
    have hi12 : i < 12 := by omega
    obtain ⟨σ', g1, g2, g3⟩ := ih (i + 1) (am_up σ 37 i (-1)) (by omega) (fun j hj => by
      rw [am_up_eq]
      by_cases h : j = i
      · subst h; rw [pk_us]
      · rw [pk_un h]; exact hC j (by omega))
    refine ⟨σ', ?_, fun a x => by rw [g2 a x, am_up_ne x], g3⟩
    rw [← g1, r4_2]
    simp (disch := first | assumption | omega | rfl | exact Nat.le_of_ble_eq_true rfl | decide) only [r4_0, r4_1, r4_3, r4_5, r4_8, r4_9, r4_12, r4_13, r4_14, r4_15, r4_18, r4_22, r4_23, r4_24, r4_26, r4_28, r4_29, r4_32, r4_35, r4_38, r4_39, r4_40, r4_43, r4_44, r4_45, r4_47, r4_48, r4_51, r4_54, r4_55, r4_58, r4_59, r4_60, r4_61, r4_64, r4_67, r4_68, am_gf_34_3, am_gf_34_5, am_gf_4_0, am_pf_34_4, am_ai_37, am_nl_i, am_nl_r, am_nl_n, am_nl_l, Option.bind_some, Option.toList_some, Option.toList_none, List.cons_append, List.nil_append, if_true, if_false, Bool.false_eq_true, Int.reduceEq, Int.reduceAdd, ↓reduceIte, show (12 : Int32) = nI 12 from rfl, ni_le, hc, nI_1, hv]
theorem c_mostFrom {d n s : Nat} {σ : am_St} {τ : Int64} {ad : Nat → Nat → Bool} {U : Nat → Bool} {tk : Int32} (h12 : n ≤ 12) (hs : s ≤ n) (hU : ∀ j, j < n → bt tk j = U j) (hn : σ 4 0 = nI n) (had : ∀ a, a < n → ∀ j, j < n → bt (σ 36 a) j = ad a j) : ∃ σ' : am_St, am_call (d + 14) 4 [.ref 34, .int (nI s), .int tk] σ τ = some (some (.int (nI (mfF n ad U (n - s) s (fun _ => none) 0).1)), σ', τ) ∧ KF σ σ' := by
  obtain ⟨σ1, a1, a2, a3⟩ := c_mf_init (d := d + 14) (τ := τ) (v1 := .int (nI s)) (v2 := .int tk) (v4 := .null) rfl 12 0 σ rfl (fun j hj => by omega)
  obtain ⟨σ', g1, g2⟩ := c_mf_loop (d := d) (τ := τ) (ad := ad) (U := U) (tk := tk) (v1 := .int (nI s)) rfl h12 hU (n - s) s 0 σ1 (fun _ => none) (by omega) (by omega) (by rw [a2 4 (by decide)]; exact hn) (fun a ha j hj => by rw [a2 36 (by decide)]; exact had a ha j hj) (fun j hj => a3 j (by omega)) (fun j h _ q => by cases q)
  refine ⟨σ', ?_, KF.tr ⟨fun c x y => a2 c y, fun j x => by rw [a2 34 (by decide)]⟩ g2⟩
  show am_run (d + 14) 4 0 [.ref 34, .int (nI s), .int tk, .null, .null] [] σ τ = _
  simp (disch := first | assumption | omega | rfl | exact Nat.le_of_ble_eq_true rfl | decide) only [r4_0, r4_1, r4_3, r4_5, r4_8, r4_9, r4_12, r4_13, r4_14, r4_15, r4_18, r4_22, r4_23, r4_24, r4_28, r4_29, r4_32, r4_35, r4_38, r4_39, r4_40, r4_43, r4_44, r4_45, r4_47, r4_48, r4_51, r4_54, r4_55, r4_58, r4_59, r4_60, r4_61, r4_64, r4_67, r4_68, am_gf_34_3, am_gf_34_5, am_gf_4_0, am_pf_34_4, am_ai_37, am_nl_i, am_nl_r, am_nl_n, am_nl_l, Option.bind_some, Option.toList_some, Option.toList_none, List.cons_append, List.nil_append, if_true, if_false, Bool.false_eq_true, Int.reduceEq, Int.reduceAdd, ↓reduceIte]
  refine Eq.trans a1 ?_
  rw [← g1, r4_21]
  simp (disch := first | assumption | omega | rfl | exact Nat.le_of_ble_eq_true rfl | decide) only [r4_0, r4_1, r4_2, r4_3, r4_5, r4_8, r4_9, r4_12, r4_13, r4_14, r4_15, r4_18, r4_21, r4_22, r4_23, r4_24, r4_28, r4_29, r4_32, r4_35, r4_38, r4_39, r4_40, r4_43, r4_44, r4_45, r4_47, r4_48, r4_51, r4_54, r4_55, r4_58, r4_59, r4_60, r4_61, r4_64, r4_67, r4_68, am_gf_34_3, am_gf_34_5, am_gf_4_0, am_pf_34_4, am_ai_37, am_nl_i, am_nl_r, am_nl_n, am_nl_l, Option.bind_some, Option.toList_some, Option.toList_none, List.cons_append, List.nil_append, if_true, if_false, Bool.false_eq_true, Int.reduceEq, Int.reduceAdd, ↓reduceIte]
  rfl
