/-! OtherName: blank, fault, law, letters -/
def x_pl (T : tS) (n : Nat) (v : Nat → Int32) : tS := (T.1, T.2.1, (n, v), T.2.2.2)
def x_lw (T : tS) (v : Nat → Int32) (r : Int32) : tS := (T.1, v, (0, s_pg T), r, T.2.2.2.2)
theorem stF_congr {pg pg' : Nat → Int32} : ∀ k, (∀ j, j < k → pg j = pg' j) → stF pg k = stF pg' k := by
  intro k
  induction k with
  | zero => intro _; rfl
  | succ k ih => intro h; rw [stF_s, stF_s, ih (fun j hj => h j (by omega)), h k (by omega)]
theorem fltF_congr {pg pg' : Nat → Int32} : ∀ k i, (∀ j, j < i + k → pg j = pg' j) → fltF pg k i = fltF pg' k i := by
  intro k
  induction k with
  | zero => intro i _; rfl
  | succ k ih =>
    intro i h
    unfold fltF
    rw [stF_congr (i + 1) (fun j hj => h j (by omega)), ih (i + 1) (fun j hj => h j (by omega))]
theorem rdF_congr {pg pg' l0 l0' : Nat → Int32} : ∀ k, (∀ j, j < k → pg j = pg' j) → (∀ j, j < 4 → l0 j = l0' j) → ∀ j, j < 4 → rdF pg l0 k j = rdF pg' l0' k j := by
  intro k
  induction k with
  | zero =>
    intro _ hl j hj
    unfold rdF upd
    split
    · rfl
    · split
      · rfl
      · split
        · rfl
        · exact hl j hj
  | succ k ih =>
    intro h hl j hj
    rw [rdF_s, rdF_s, stF_congr (k + 1) h, h k (by omega)]
    have hk := ih (fun j hj => h j (by omega)) hl j hj
    have up : ∀ (a b : Nat → Int32) (i : Nat) (x : Int32), a j = b j → upd a i x j = upd b i x j := fun a b i x e => by unfold upd; split <;> first | rfl | exact e
    split
    · exact up _ _ _ _ hk
    · split
      · exact up _ _ _ _ hk
      · split
        · exact up _ _ _ _ hk
        · split
          · exact up _ _ _ _ hk
          · exact hk
def s_flt (T : tS) : Int32 := fltF (s_pg T) (s_pl T) 0
theorem c_fault {d : Nat} {σ : am_St} {τ : Int64} {T : tS} (hR : RC σ T) (hW : WF T) : am_call (d + 3) 53 [.ref 0] σ τ = some (some (.int (s_flt T)), σ, τ) := by
  show am_run (d + 3) 53 0 [.ref 0] [] σ τ = _
  have h := c_firstFault (d := d) (τ := τ) hR.2.2.2.1.1 hW.2.2.2.2.1
  rw [fltF_congr (s_pl T) 0 (fun j hj => hR.2.2.2.1.2 j (by omega))] at h
  simp (disch := first | assumption | omega | rfl | exact Nat.le_of_ble_eq_true rfl | decide) only [r53_0, r53_1, r53_4, r53_7, am_gf_0_0, am_nl_i, am_nl_r, am_nl_n, am_nl_l, Option.bind_some, Option.toList_some, Option.toList_none, List.cons_append, List.nil_append, if_true, if_false, Bool.false_eq_true, Int.reduceEq, Int.reduceAdd, ↓reduceIte, h]
  rfl
def sp_blank (T : tS) : Int32 × tS := (nI (s_pl T), x_pl T 0 (s_pg T))
theorem c_blank {d : Nat} {σ : am_St} {τ : Int64} {T : tS} (hR : RC σ T) : ∃ σ' : am_St, am_call d 52 [.ref 0] σ τ = some (some (.int (sp_blank T).1), σ', τ) ∧ RC σ' (sp_blank T).2 ∧ ∀ c, 42 ≤ c → σ' c = σ c := by
  refine ⟨am_up σ 1 1 0, ?_, ?_, fun c hc => am_up_ne (by omega)⟩
  · show am_run d 52 0 [.ref 0, .null] [] σ τ = _
    simp (disch := first | assumption | omega | rfl | exact Nat.le_of_ble_eq_true rfl | decide) only [r52_0, r52_1, r52_4, r52_7, r52_8, r52_9, r52_12, r52_13, r52_16, r52_17, am_gf_1_1, am_gf_0_0, am_pf_1_1, am_nl_i, am_nl_r, am_nl_n, am_nl_l, Option.bind_some, Option.toList_some, Option.toList_none, List.cons_append, List.nil_append, if_true, if_false, Bool.false_eq_true, Int.reduceEq, Int.reduceAdd, ↓reduceIte, hR.2.2.2.1.1]
    rfl
  · obtain ⟨r1, r2, r3, r4, r5, r6, r7⟩ := hR
    refine ⟨by rw [am_up_ne (by decide)]; exact r1, fun i hi => by simp (disch := decide) only [am_up_ne]; exact r2 i hi, fun i hi => by rw [am_up_ne (by decide)]; exact r3 i hi, ⟨by rw [am_up_eq, pk_us]; rfl, fun j hj => absurd hj (Nat.not_lt_zero j)⟩, by rw [am_up_ne (by decide)]; exact r5, by rw [am_up_ne (by decide)]; exact r6, by simp (disch := decide) only [am_up_ne]; exact r7⟩
def sp_law (T : tS) : Int32 × tS := if isLw (stF (s_pg T) (s_pl T)) = 0 then (-103, T) else (s_lr T + 1, x_lw T (rdF (s_pg T) (s_lw T) (s_pl T)) (s_lr T + 1))
theorem c_law {d : Nat} {σ : am_St} {τ : Int64} {T : tS} (hR : RC σ T) (hW : WF T) : ∃ σ' : am_St, am_call (d + 5) 54 [.ref 0] σ τ = some (some (.int (sp_law T).1), σ', τ) ∧ RC σ' (sp_law T).2 ∧ ∀ c, 42 ≤ c → σ' c = σ c := by
  have hn := hR.1
  have hp := hR.2.2.2.1.1
  have h16 := hW.2.2.2.2.1
  have hil := c_isLaw (d := d + 2) (τ := τ) hp h16
  rw [stF_congr (pg' := s_pg T) (s_pl T) (fun j hj => hR.2.2.2.1.2 j hj)] at hil
  unfold sp_law
  by_cases hs : isLw (stF (s_pg T) (s_pl T)) = 0
  · rw [if_pos hs]
    rw [hs] at hil
    refine ⟨σ, ?_, hR, fun _ _ => rfl⟩
    show am_run (d + 5) 54 0 [.ref 0] [] σ τ = _
    simp (disch := first | assumption | omega | rfl | exact Nat.le_of_ble_eq_true rfl | decide) only [r54_0, r54_1, r54_4, r54_7, r54_10, r54_12, r54_13, r54_14, r54_17, r54_18, r54_21, r54_24, r54_25, r54_28, r54_29, r54_32, r54_33, r54_33i, r54_34, r54_37, r54_38, r54_39, r54_42, r54_43, r54_46, r54_47, r54_50, am_gf_0_0, am_gf_0_1, am_gf_0_9, am_pf_1_1, am_pf_0_9, am_nl_i, am_nl_r, am_nl_n, am_nl_l, Option.bind_some, Option.toList_some, Option.toList_none, List.cons_append, List.nil_append, if_true, if_false, Bool.false_eq_true, Int.reduceEq, Int.reduceAdd, ↓reduceIte, hil]
  · rw [if_neg hs]
    obtain ⟨σ1, a1, a2, a3⟩ := c_readInto (d := d + 2) (σ := σ) (τ := τ) hp h16
    have hph := hR.ph hW
    obtain ⟨r1, r2, r3, r4, r5, r6, r7⟩ := hR
    have hlw : ∀ j, j < 4 → σ1 3 j = rdF (s_pg T) (s_lw T) (s_pl T) j := fun j hj => by rw [a3]; exact rdF_congr (s_pl T) (fun i hi => r4.2 i hi) r3 j hj
    have h09 : am_up σ1 1 1 0 0 9 = s_lr T := by rw [am_up_ne (by decide), a2 0 (by decide)]; exact r5
    obtain ⟨σ', g1, g2, g3⟩ := c_nameAll (d := d) (σ := am_up (am_up σ1 1 1 0) 0 9 (s_lr T + 1)) (τ := τ) (n := s_n T) (kd := s_kd T) (tl := s_tl T) (al := s_al T) (f := s_f T) (g := s_g T) (lw := rdF (s_pg T) (s_lw T) (s_pl T)) hW.1 (by simp (disch := decide) only [am_up_ne]; rw [a2 4 (by decide)]; exact hn) (by simp (disch := decide) only [am_up_ne]; rw [a2 7 (by decide), a2 8 (by decide)]; exact hph) (fun i hi => by simp (disch := decide) only [am_up_ne]; rw [a2 5 (by decide), a2 11 (by decide)]; exact ⟨(r2 i hi).1, (r2 i hi).2.2.2.2.2.2.1⟩) (fun i hi => by simp (disch := decide) only [am_up_ne]; exact hlw i hi)
    have k : ∀ c, c ≠ 0 → c ≠ 1 → c ≠ 3 → c ≠ 16 → c ≠ 17 → σ' c = σ c := fun c x y z w v => by rw [g2 c w v, am_up_ne x, am_up_ne y, a2 c z]
    have k0 : ∀ j, j ≠ 9 → σ' 0 j = σ 0 j := fun j hj => by rw [g2 0 (by decide) (by decide), am_up_eq, pk_un hj, am_up_ne (by decide), a2 0 (by decide)]
    have k09 : σ' 0 9 = s_lr T + 1 := by rw [g2 0 (by decide) (by decide), am_up_eq, pk_us]
    refine ⟨σ', ?_, ?_, fun c hc => k c (by omega) (by omega) (by omega) (by omega) (by omega)⟩
    · show am_run (d + 5) 54 0 [.ref 0] [] σ τ = _
      have hz : isLw (stF (s_pg T) (s_pl T)) = 1 := by
        unfold isLw at hs ⊢
        split at hs
        · rename_i q; rw [if_pos q]
        · exact absurd rfl hs
      rw [hz] at hil
      simp (disch := first | assumption | omega | rfl | exact Nat.le_of_ble_eq_true rfl | decide) only [r54_0, r54_1, r54_4, r54_7, r54_10, r54_12, r54_13, r54_14, r54_17, r54_18, r54_21, r54_24, r54_25, r54_28, r54_29, r54_32, r54_33, r54_33i, r54_34, r54_37, r54_38, r54_39, r54_42, r54_43, r54_46, r54_47, r54_50, am_gf_0_0, am_gf_0_1, am_gf_0_9, am_pf_1_1, am_pf_0_9, am_nl_i, am_nl_r, am_nl_n, am_nl_l, Option.bind_some, Option.toList_some, Option.toList_none, List.cons_append, List.nil_append, if_true, if_false, Bool.false_eq_true, Int.reduceEq, Int.reduceAdd, ↓reduceIte, hil, e10, a1, h09, g1, k09]
    · refine ⟨by rw [k 4 (by decide) (by decide) (by decide) (by decide) (by decide)]; exact r1, fun i hi => ?_, fun j hj => ?_, ⟨?_, fun j hj => absurd hj (Nat.not_lt_zero j)⟩, k09, by rw [k0 10 (by decide)]; exact r6, ?_⟩
      · obtain ⟨b1, b2, b3, b4, b5, b6, b7, b8, b9, b10, b11⟩ := r2 i hi
        rw [k 5 (by decide) (by decide) (by decide) (by decide) (by decide), k 6 (by decide) (by decide) (by decide) (by decide) (by decide), k 7 (by decide) (by decide) (by decide) (by decide) (by decide), k 8 (by decide) (by decide) (by decide) (by decide) (by decide), k 9 (by decide) (by decide) (by decide) (by decide) (by decide), k 10 (by decide) (by decide) (by decide) (by decide) (by decide), k 11 (by decide) (by decide) (by decide) (by decide) (by decide), k 12 (by decide) (by decide) (by decide) (by decide) (by decide), k 13 (by decide) (by decide) (by decide) (by decide) (by decide), k 14 (by decide) (by decide) (by decide) (by decide) (by decide)]
        exact ⟨b1, b2, b3, b4, b5, b6, b7, b8, b9, g3 i hi, b11⟩
      · rw [g2 3 (by decide) (by decide)]
        simp (disch := decide) only [am_up_ne]
        exact hlw j hj
      · rw [g2 1 (by decide) (by decide), am_up_ne (by decide), am_up_eq, pk_us]
        rfl
      · rw [k 38 (by decide) (by decide) (by decide) (by decide) (by decide), k 39 (by decide) (by decide) (by decide) (by decide) (by decide), k 40 (by decide) (by decide) (by decide) (by decide) (by decide), k 41 (by decide) (by decide) (by decide) (by decide) (by decide)]
        exact r7
theorem ru_in {c : Int32} (h : ¬ ruS c = -1) : in03 (ruS c) := by
  unfold ruS at h ⊢
  unfold in03
  repeat' split
  all_goals simp_all
theorem nx_1 {s c : Int32} (h : nxS s c = 1) : s = 0 ∧ ¬ ruS c = -1 := by
  unfold nxS at h
  repeat' split at h
  all_goals first | (exact absurd h (by decide)) | (refine ⟨?_, ?_⟩ <;> assumption)
theorem nx_3 {s c : Int32} (h : nxS s c = 3) : s = 2 ∧ ¬ ruS c = -1 := by
  unfold nxS at h
  repeat' split at h
  all_goals first | (exact absurd h (by decide)) | (refine ⟨?_, ?_⟩ <;> assumption)
theorem nx_5 {s c : Int32} (h : nxS s c = 5) : s = 4 ∧ ¬ ruS c = -1 := by
  unfold nxS at h
  repeat' split at h
  all_goals first | (exact absurd h (by decide)) | (refine ⟨?_, ?_⟩ <;> assumption)
theorem nx_4 {s c : Int32} (h : nxS s c = 4) : s = 1 ∨ s = 3 := by
  unfold nxS at h
  repeat' split at h
  all_goals first | (exact absurd h (by decide)) | (exact Or.inl (by assumption)) | (exact Or.inr (by assumption))
theorem nx_2 {s c : Int32} (h : nxS s c = 2) : s = 1 := by
  unfold nxS at h
  repeat' split at h
  all_goals first | (exact absurd h (by decide)) | assumption
theorem nx_all (s c : Int32) : nxS s c = -1 ∨ nxS s c = 1 ∨ nxS s c = 2 ∨ nxS s c = 3 ∨ nxS s c = 4 ∨ nxS s c = 5 := by
  unfold nxS
  repeat' split
  all_goals simp
/-- a law that is read is one -/
theorem rd_ok (pg l0 : Nat → Int32) : ∀ k, in03 (rdF pg l0 k 3) ∧ (¬ stF pg k = 0 → ¬ stF pg k = -1 → in03 (rdF pg l0 k 0)) ∧ (¬ stF pg k = 2 → ¬ stF pg k = -1 → 0 < rdF pg l0 k 1 → in03 (rdF pg l0 k 2)) := by
  intro k
  induction k with
  | zero =>
    refine ⟨Or.inr (Or.inl rfl), fun h => absurd rfl h, fun _ _ h => ?_⟩
    have e : rdF pg l0 0 1 = 0 := rfl
    rw [e] at h
    exact absurd h (by decide)
  | succ k ih =>
    obtain ⟨i1, i2, i3⟩ := ih
    have hall := nx_all (stF pg k) (pg k)
    rw [← stF_s] at hall
    have hs := rdF_s pg l0 k
    rcases hall with h | h | h | h | h | h
    · rw [h] at hs
      simp only [show ¬ (-1 : Int32) = 1 by decide, show ¬ (-1 : Int32) = 2 by decide, show ¬ (-1 : Int32) = 3 by decide, show ¬ (-1 : Int32) = 5 by decide, if_false] at hs
      rw [hs, h]
      exact ⟨i1, fun _ q => absurd rfl q, fun _ q => absurd rfl q⟩
    · obtain ⟨e1, e2⟩ := nx_1 h
      rw [h] at hs
      simp only [if_true] at hs
      rw [hs, h]
      refine ⟨i1, fun _ _ => ru_in e2, fun _ _ q => ?_⟩
      exact i3 (by rw [e1]; decide) (by rw [e1]; decide) q
    · have e1 := nx_2 h
      rw [h] at hs
      simp only [show ¬ (2 : Int32) = 1 by decide, if_true, if_false] at hs
      rw [hs, h]
      exact ⟨i1, fun _ _ => i2 (by rw [e1]; decide) (by rw [e1]; decide), fun q => absurd rfl q⟩
    · obtain ⟨e1, e2⟩ := nx_3 h
      rw [h] at hs
      simp only [show ¬ (3 : Int32) = 1 by decide, show ¬ (3 : Int32) = 2 by decide, if_true, if_false] at hs
      rw [hs, h]
      exact ⟨i1, fun _ _ => i2 (by rw [e1]; decide) (by rw [e1]; decide), fun _ _ _ => ru_in e2⟩
    · rw [h] at hs
      simp only [show ¬ (4 : Int32) = 1 by decide, show ¬ (4 : Int32) = 2 by decide, show ¬ (4 : Int32) = 3 by decide, show ¬ (4 : Int32) = 5 by decide, if_false] at hs
      rw [hs, h]
      rcases nx_4 h with e1 | e1
      · exact ⟨i1, fun _ _ => i2 (by rw [e1]; decide) (by rw [e1]; decide), fun _ _ => i3 (by rw [e1]; decide) (by rw [e1]; decide)⟩
      · exact ⟨i1, fun _ _ => i2 (by rw [e1]; decide) (by rw [e1]; decide), fun _ _ => i3 (by rw [e1]; decide) (by rw [e1]; decide)⟩
    · obtain ⟨e1, e2⟩ := nx_5 h
      rw [h] at hs
      simp only [show ¬ (5 : Int32) = 1 by decide, show ¬ (5 : Int32) = 2 by decide, show ¬ (5 : Int32) = 3 by decide, if_true, if_false] at hs
      rw [hs, h]
      exact ⟨ru_in e2, fun _ _ => i2 (by rw [e1]; decide) (by rw [e1]; decide), fun _ _ => i3 (by rw [e1]; decide) (by rw [e1]; decide)⟩
theorem WF.law {T : tS} (hW : WF T) : WF (sp_law T).2 := by
  unfold sp_law
  by_cases hs : isLw (stF (s_pg T) (s_pl T)) = 0
  · rw [if_pos hs]; exact hW
  · rw [if_neg hs]
    obtain ⟨w1, w2, w3, w4, w5, w6, w7⟩ := hW
    obtain ⟨o1, o2, o3⟩ := rd_ok (s_pg T) (s_lw T) (s_pl T)
    have hst : stF (s_pg T) (s_pl T) = 1 ∨ stF (s_pg T) (s_pl T) = 3 ∨ stF (s_pg T) (s_pl T) = 5 := by
      unfold isLw at hs
      split at hs
      · assumption
      · exact absurd rfl hs
    have n0 : ¬ stF (s_pg T) (s_pl T) = 0 := by rcases hst with h | h | h <;> rw [h] <;> decide
    have n1 : ¬ stF (s_pg T) (s_pl T) = -1 := by rcases hst with h | h | h <;> rw [h] <;> decide
    have n2 : ¬ stF (s_pg T) (s_pl T) = 2 := by rcases hst with h | h | h <;> rw [h] <;> decide
    exact ⟨w1, w2, w3, ⟨o2 n0 n1, o1, o3 n2 n1⟩, Nat.zero_le 16, w6, w7⟩
