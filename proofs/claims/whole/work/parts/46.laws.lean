/-! the reference: laws -/
theorem cnt0_ff {P : Nat → Bool} {n : Nat} (h12 : n ≤ 12) : (cnt P n = 0) = (ff P n 0 = -1) := by
  apply propext
  rcases ff_spec (P := P) n 0 with ⟨i, -, h2, h3, h4⟩ | ⟨h1, h2⟩
  · constructor
    · intro h
      have := cnt_lt (show i < n by omega) h3
      omega
    · intro h
      rw [h4] at h
      exact absurd h (am_nm1 (by omega))
  · exact ⟨fun _ => h1, fun _ => cnt_zero (fun j hj => h2 j (Nat.zero_le j) (by omega))⟩
def s_fB (T : tS) : Nat → Bool := fitB (s_n T) (s_kd T) (s_tl T) (s_wr T) (s_al T) (s_f T) (s_g T) (s_lw T 3)
/-- the search for laws, before the c-th -/
def IL (T : tS) (σ0 σ : am_St) (c : Nat) : Prop := (∀ a, a ≠ 54 → a ≠ 57 → a ≠ 63 → σ a = σ0 a) ∧ σ 57 3 = s_lw T 3 ∧ σ 63 0 = nI (ftF (s_fB T) c).1 ∧ ∀ j, j < 3 → σ 63 (j + 1) = if (ftF (s_fB T) c).1 = 0 then -1 else lwT (ftF (s_fB T) c).2 j
/-- what stands ahead of it -/
def JL (T : tS) (σ : am_St) : Prop := σ 42 6 = nI (s_n T) ∧ ∀ j, j < s_n T → σ 46 j = s_kd T j ∧ σ 49 j = encS (s_al T) (s_g T) j ∧ σ 55 j = encS (s_al T) (s_f T) j ∧ σ 51 j = s_wr T j ∧ σ 56 j = s_tl T j
theorem lwT_ok {c : Nat} (hc : c < 68) {tw : Int32} (ht : in03 tw) : in03 (if 0 = 3 then tw else lwT c 0) ∧ in03 (if 3 = 3 then tw else lwT c 3) ∧ (0 < (if 1 = 3 then tw else lwT c 1) → in03 (if 2 = 3 then tw else lwT c 2)) := by
  have h4 : ∀ k, k < 4 → in03 (nI k) := by
    intro k hk
    rcases (show k = 0 ∨ k = 1 ∨ k = 2 ∨ k = 3 by omega) with rfl | rfl | rfl | rfl
    · exact Or.inl rfl
    · exact Or.inr (Or.inl rfl)
    · exact Or.inr (Or.inr (Or.inl rfl))
    · exact Or.inr (Or.inr (Or.inr rfl))
  refine ⟨?_, ht, ?_⟩
  · show in03 (lwT c 0)
    unfold lwT
    by_cases h : c < 4
    · rw [if_pos h]; exact h4 c h
    · rw [if_neg h]; exact h4 _ (by omega)
  · show 0 < lwT c 1 → in03 (lwT c 2)
    unfold lwT
    by_cases h : c < 4
    · rw [if_pos h]
      intro q
      exact absurd (show (0 : Int32) < 0 from q) (by decide)
    · rw [if_neg h]
      intro _
      rw [if_neg h]
      exact h4 _ (by omega)
theorem m_tryLaw {d c : Nat} {σ0 σ : am_St} {τ : Int64} {T : tS} (hW : WF T) (hJ : JL T σ0) (hI : IL T σ0 σ c) (hc : c < 68) : ∃ σ' : am_St, am_call (d + 3) 120 [.ref 42, .int (lwT c 0), .int (lwT c 1), .int (lwT c 2)] σ τ = some (none, σ', τ) ∧ IL T σ0 σ' (c + 1) := by
  have h12 := hW.1
  obtain ⟨i1, i2, i3, i4⟩ := hI
  have k1 : ∀ a, a ≠ 57 → am_up (am_up (am_up σ 57 0 (lwT c 0)) 57 1 (lwT c 1)) 57 2 (lwT c 2) a = σ a := fun a x => by rw [am_up_ne x, am_up_ne x, am_up_ne x]
  have k57 : ∀ j, j < 4 → am_up (am_up (am_up σ 57 0 (lwT c 0)) 57 1 (lwT c 1)) 57 2 (lwT c 2) 57 j = if j = 3 then s_lw T 3 else lwT c j := by
    intro j hj
    rw [am_up_eq, am_up_eq, am_up_eq]
    unfold upd
    rcases (show j = 0 ∨ j = 1 ∨ j = 2 ∨ j = 3 by omega) with rfl | rfl | rfl | rfl
    · rfl
    · rfl
    · rfl
    · exact i2
  obtain ⟨σ2, b1, b2, b3⟩ := m_layNames (d := d) (σ := am_up (am_up (am_up σ 57 0 (lwT c 0)) 57 1 (lwT c 1)) 57 2 (lwT c 2)) (τ := τ) (n := s_n T) (kd := s_kd T) (tl := s_tl T) (f := s_f T) (g := s_g T) (lw := fun j => if j = 3 then s_lw T 3 else lwT c j) h12 hW.kd (lwT_ok hc hW.2.2.2.1.2.1) (by rw [k1 42 (by decide), i1 42 (by decide) (by decide) (by decide)]; exact hJ.1) (PH_enc hW (fun j hj => ⟨by rw [k1 55 (by decide), i1 55 (by decide) (by decide) (by decide)]; exact (hJ.2 j hj).2.2.1, by rw [k1 49 (by decide), i1 49 (by decide) (by decide) (by decide)]; exact (hJ.2 j hj).2.1⟩)) (fun j hj => ⟨by rw [k1 46 (by decide), i1 46 (by decide) (by decide) (by decide)]; exact (hJ.2 j hj).1, fun _ => by rw [k1 56 (by decide), i1 56 (by decide) (by decide) (by decide)]; exact (hJ.2 j hj).2.2.2.2⟩) k57
  have k2 : ∀ a, a ≠ 54 → a ≠ 57 → σ2 a = σ a := fun a x y => by rw [b2 a x, k1 a y]
  have hn2 : σ2 42 6 = nI (s_n T) := by rw [k2 42 (by decide) (by decide), i1 42 (by decide) (by decide) (by decide)]; exact hJ.1
  have hwm := m_wrongMany (d := d + 2) (τ := τ) hn2 h12
  have ec : cnt (wrB (σ2 54) (σ2 51)) (s_n T) = cnt (wrB (nmS (s_kd T) (s_tl T) (s_al T) (s_f T) (s_g T) (fun j => if j = 3 then s_lw T 3 else lwT c j) (s_n T)) (s_wr T)) (s_n T) := by
    apply cnt_congr
    intro j hj
    unfold wrB
    rw [b3 j hj, k2 51 (by decide) (by decide), i1 51 (by decide) (by decide) (by decide), (hJ.2 j hj).2.2.2.1]
    rfl
  rw [ec] at hwm
  have hB : s_fB T c = decide (cnt (wrB (nmS (s_kd T) (s_tl T) (s_al T) (s_f T) (s_g T) (fun j => if j = 3 then s_lw T 3 else lwT c j) (s_n T)) (s_wr T)) (s_n T) = 0) := by
    unfold s_fB fitB
    simp only [cnt0_ff h12]
  have hle : cnt (wrB (nmS (s_kd T) (s_tl T) (s_al T) (s_f T) (s_g T) (fun j => if j = 3 then s_lw T 3 else lwT c j) (s_n T)) (s_wr T)) (s_n T) ≤ 12 := Nat.le_trans (cnt_le _ _) h12
  generalize cnt (wrB (nmS (s_kd T) (s_tl T) (s_al T) (s_f T) (s_g T) (fun j => if j = 3 then s_lw T 3 else lwT c j) (s_n T)) (s_wr T)) (s_n T) = E at hwm hB hle
  have hf := ftF_le (s_fB T) c
  have t3 : σ2 57 3 = s_lw T 3 := by rw [b2 57 (by decide), k57 3 (by decide)]; rfl
  have k63 : σ2 63 = σ 63 := k2 63 (by decide) (by decide)
  have j0 : σ2 63 0 = nI (ftF (s_fB T) c).1 := by rw [k63]; exact i3
  have ks : ∀ a, a ≠ 54 → a ≠ 57 → a ≠ 63 → σ2 a = σ0 a := fun a x y z => by rw [k2 a x y, i1 a x y z]
  show ∃ σ' : am_St, am_run (d + 3) 120 0 [.ref 42, .int (lwT c 0), .int (lwT c 1), .int (lwT c 2)] [] σ τ = _ ∧ _
  have a0 : am_ai false 57 0 = am_ai false 57 (nI 0) := rfl
  have a1 : am_ai false 57 1 = am_ai false 57 (nI 1) := rfl
  have a2 : am_ai false 57 2 = am_ai false 57 (nI 2) := rfl
  have go : am_run (d + 3) 120 0 [.ref 42, .int (lwT c 0), .int (lwT c 1), .int (lwT c 2)] [] σ τ = am_run (d + 3) 120 25 [.ref 42, .int (lwT c 0), .int (lwT c 1), .int (lwT c 2)] [] σ2 τ := by
    simp (disch := first | assumption | omega | rfl | exact Nat.le_of_ble_eq_true rfl | decide) only [r120_0, r120_1, r120_4, r120_5, r120_6, r120_7, r120_8, r120_11, r120_12, r120_13, r120_14, r120_15, r120_18, r120_19, r120_20, r120_21, r120_22, r120_26, r120_29, r120_32, r120_33, r120_36, r120_37, r120_38, r120_41, r120_42, r120_43, r120_46, r120_47, r120_50, r120_51, r120_54, r120_55, r120_56, r120_57, r120_58, r120_61, r120_62, r120_63, r120_66, r120_67, r120_68, r120_71, r120_72, r120_75, r120_76, r120_79, r120_80, r120_81, r120_82, r120_83, r120_86, r120_87, r120_88, r120_91, r120_92, r120_93, r120_96, r120_97, r120_100, r120_101, r120_104, r120_105, r120_106, r120_107, r120_108, r120_111, r120_112, r120_113, r120_114, r120_115, r120_116, r120_117, am_gf_42_19, am_gf_42_26, am_ai_57, am_ai_63, am_nl_i, am_nl_r, am_nl_n, am_nl_l, Option.bind_some, Option.toList_some, Option.toList_none, List.cons_append, List.nil_append, if_true, if_false, Bool.false_eq_true, Int.reduceEq, Int.reduceAdd, ↓reduceIte, a0, a1, a2, b1]
  rw [go, r120_25]
  by_cases hE : E = 0
  · rw [decide_eq_true hE] at hB
    have hs : ftF (s_fB T) (c + 1) = ((ftF (s_fB T) c).1 + 1, if (ftF (s_fB T) c).1 = 0 then c else (ftF (s_fB T) c).2) := by rw [ftF_s, if_pos hB]
    have ez : nI E = 0 := by rw [hE]; rfl
    have c0 : am_ai false 63 0 = am_ai false 63 (nI 0) := rfl
    have c1 : am_ai false 63 1 = am_ai false 63 (nI 1) := rfl
    have c2 : am_ai false 63 2 = am_ai false 63 (nI 2) := rfl
    have c3 : am_ai false 63 3 = am_ai false 63 (nI 3) := rfl
    have i4' : ∀ j, j < 3 → σ2 63 (j + 1) = if (ftF (s_fB T) c).1 = 0 then -1 else lwT (ftF (s_fB T) c).2 j := fun j hj => by rw [k63]; exact i4 j hj
    by_cases hz : (ftF (s_fB T) c).1 = 0
    · have j0' : σ2 63 0 = 0 := by rw [j0, hz]; rfl
      refine ⟨am_up (am_up (am_up (am_up σ2 63 1 (lwT c 0)) 63 2 (lwT c 1)) 63 3 (lwT c 2)) 63 0 (nI 1), ?_, fun a x y z => by rw [am_up_ne z, am_up_ne z, am_up_ne z, am_up_ne z, ks a x y z], by rw [am_up_ne (by decide), am_up_ne (by decide), am_up_ne (by decide), am_up_ne (by decide)]; exact t3, ?_, fun j hj => ?_⟩
      · have e1 : (0 : Int32) + 1 = nI 1 := by decide
        simp (disch := first | assumption | omega | rfl | exact Nat.le_of_ble_eq_true rfl | decide) only [r120_0, r120_1, r120_4, r120_5, r120_6, r120_7, r120_8, r120_11, r120_12, r120_13, r120_14, r120_15, r120_18, r120_19, r120_20, r120_21, r120_22, r120_26, r120_29, r120_32, r120_33, r120_36, r120_37, r120_38, r120_41, r120_42, r120_43, r120_46, r120_47, r120_50, r120_51, r120_54, r120_55, r120_56, r120_57, r120_58, r120_61, r120_62, r120_63, r120_66, r120_67, r120_68, r120_71, r120_72, r120_75, r120_76, r120_79, r120_80, r120_81, r120_82, r120_83, r120_86, r120_87, r120_88, r120_91, r120_92, r120_93, r120_96, r120_97, r120_100, r120_101, r120_104, r120_105, r120_106, r120_107, r120_108, r120_111, r120_112, r120_113, r120_114, r120_115, r120_116, r120_117, am_gf_42_19, am_gf_42_26, am_ai_57, am_ai_63, am_nl_i, am_nl_r, am_nl_n, am_nl_l, Option.bind_some, Option.toList_some, Option.toList_none, List.cons_append, List.nil_append, if_true, if_false, Bool.false_eq_true, Int.reduceEq, Int.reduceAdd, ↓reduceIte, hwm, ez, c0, c1, c2, c3, j0', am_up_eq, pk_un, e1]
      · rw [hs, am_up_eq, pk_us]
        dsimp only
        rw [hz]
      · rw [hs]
        dsimp only
        rw [hz, if_neg (by omega), if_pos rfl]
        simp only [am_up_eq]
        unfold upd
        rcases (show j = 0 ∨ j = 1 ∨ j = 2 by omega) with rfl | rfl | rfl <;> rfl
    · have j0' : ¬ nI (ftF (s_fB T) c).1 = 0 := nI_ne0 (by omega) (by omega)
      refine ⟨am_up (am_up (am_up (am_up σ2 63 1 (σ2 63 1)) 63 2 (σ2 63 2)) 63 3 (σ2 63 3)) 63 0 (nI ((ftF (s_fB T) c).1 + 1)), ?_, fun a x y z => by rw [am_up_ne z, am_up_ne z, am_up_ne z, am_up_ne z, ks a x y z], by rw [am_up_ne (by decide), am_up_ne (by decide), am_up_ne (by decide), am_up_ne (by decide)]; exact t3, ?_, fun j hj => ?_⟩
      · simp (disch := first | assumption | omega | rfl | exact Nat.le_of_ble_eq_true rfl | decide) only [r120_0, r120_1, r120_4, r120_5, r120_6, r120_7, r120_8, r120_11, r120_12, r120_13, r120_14, r120_15, r120_18, r120_19, r120_20, r120_21, r120_22, r120_26, r120_29, r120_32, r120_33, r120_36, r120_37, r120_38, r120_41, r120_42, r120_43, r120_46, r120_47, r120_50, r120_51, r120_54, r120_55, r120_56, r120_57, r120_58, r120_61, r120_62, r120_63, r120_66, r120_67, r120_68, r120_71, r120_72, r120_75, r120_76, r120_79, r120_80, r120_81, r120_82, r120_83, r120_86, r120_87, r120_88, r120_91, r120_92, r120_93, r120_96, r120_97, r120_100, r120_101, r120_104, r120_105, r120_106, r120_107, r120_108, r120_111, r120_112, r120_113, r120_114, r120_115, r120_116, r120_117, am_gf_42_19, am_gf_42_26, am_ai_57, am_ai_63, am_nl_i, am_nl_r, am_nl_n, am_nl_l, Option.bind_some, Option.toList_some, Option.toList_none, List.cons_append, List.nil_append, if_true, if_false, Bool.false_eq_true, Int.reduceEq, Int.reduceAdd, ↓reduceIte, hwm, ez, c0, c1, c2, c3, j0, j0', am_up_eq, pk_un, nI_1]
      · rw [hs, am_up_eq, pk_us]
      · rw [hs]
        dsimp only
        rw [if_neg (by omega), if_neg hz]
        have := i4' j hj
        rw [if_neg hz] at this
        rw [← this]
        simp only [am_up_eq]
        unfold upd
        rcases (show j = 0 ∨ j = 1 ∨ j = 2 by omega) with rfl | rfl | rfl <;> rfl
  · rw [decide_eq_false hE] at hB
    have hs : ftF (s_fB T) (c + 1) = ftF (s_fB T) c := by rw [ftF_s, if_neg (by rw [hB]; decide)]
    have ez : ¬ nI E = 0 := nI_ne0 (by omega) (by omega)
    refine ⟨σ2, ?_, ks, t3, by rw [hs]; exact j0, fun j hj => by rw [hs, k63]; exact i4 j hj⟩
    simp (disch := first | assumption | omega | rfl | exact Nat.le_of_ble_eq_true rfl | decide) only [r120_0, r120_1, r120_4, r120_5, r120_6, r120_7, r120_8, r120_11, r120_12, r120_13, r120_14, r120_15, r120_18, r120_19, r120_20, r120_21, r120_22, r120_26, r120_29, r120_32, r120_33, r120_36, r120_37, r120_38, r120_41, r120_42, r120_43, r120_46, r120_47, r120_50, r120_51, r120_54, r120_55, r120_56, r120_57, r120_58, r120_61, r120_62, r120_63, r120_66, r120_67, r120_68, r120_71, r120_72, r120_75, r120_76, r120_79, r120_80, r120_81, r120_82, r120_83, r120_86, r120_87, r120_88, r120_91, r120_92, r120_93, r120_96, r120_97, r120_100, r120_101, r120_104, r120_105, r120_106, r120_107, r120_108, r120_111, r120_112, r120_113, r120_114, r120_115, r120_116, r120_117, am_gf_42_19, am_gf_42_26, am_ai_57, am_ai_63, am_nl_i, am_nl_r, am_nl_n, am_nl_l, Option.bind_some, Option.toList_some, Option.toList_none, List.cons_append, List.nil_append, if_true, if_false, Bool.false_eq_true, Int.reduceEq, Int.reduceAdd, ↓reduceIte, hwm, ez]
theorem m_layLaws_i {d : Nat} {τ : Int64} {v2 v3 : Value} : ∀ k i (σ : am_St), i + k = 4 → 0 < i → (∀ j, 0 < j → j < i → σ 63 j = -1) → ∃ σ' : am_St, am_run d 121 13 [.ref 42, .int (nI i), v2, v3] [] σ τ = am_run d 121 31 [.ref 42, .int (nI 4), v2, v3] [] σ' τ ∧ (∀ a, a ≠ 63 → σ' a = σ a) ∧ σ' 63 0 = σ 63 0 ∧ ∀ j, 0 < j → j < 4 → σ' 63 j = -1 := by
  intro k
  induction k with
  | zero =>
    intro i σ hi h0 h
    have e : i = 4 := by omega
    subst e
    refine ⟨σ, ?_, fun _ _ => rfl, rfl, h⟩
    rw [r121_13]
    simp (disch := first | assumption | omega | rfl | exact Nat.le_of_ble_eq_true rfl | decide) only [r121_0, r121_1, r121_4, r121_5, r121_8, r121_9, r121_10, r121_11, r121_12, r121_14, r121_15, r121_18, r121_19, r121_22, r121_23, r121_24, r121_25, r121_28, r121_32, r121_34, r121_35, r121_38, r121_39, r121_40, r121_41, r121_42, r121_45, r121_48, r121_51, r121_52, r121_54, r121_55, r121_58, r121_59, r121_61, r121_63, r121_66, r121_67, r121_69, r121_70, r121_73, r121_74, r121_75, r121_76, r121_77, r121_80, r121_83, r121_86, r121_89, r121_92, r121_95, r121_98, am_gf_42_26, am_ai_63, am_nl_i, am_nl_r, am_nl_n, am_nl_l, Option.bind_some, Option.toList_some, Option.toList_none, List.cons_append, List.nil_append, if_true, if_false, Bool.false_eq_true, Int.reduceEq, Int.reduceAdd, ↓reduceIte, show (4 : Int32) = nI 4 from rfl, i_rf]
  | succ k ih =>
    intro i σ hi h0 h
    have hc : ¬ 4 ≤ i := by omega
    have hi4 : i < 4 := by omega
    obtain ⟨σ', g1, g2, g3, g4⟩ := ih (i + 1) (am_up σ 63 i (-1)) (by omega) (by omega) (fun j h1 hj => by
      rw [am_up_eq]
      by_cases e : j = i
      · subst e; rw [pk_us]
      · rw [pk_un e]; exact h j h1 (by omega))
    refine ⟨σ', ?_, fun a x => by rw [g2 a x, am_up_ne x], by rw [g3, am_up_eq, pk_un (by omega)], g4⟩
    rw [← g1, r121_13]
    simp (disch := first | assumption | omega | rfl | exact Nat.le_of_ble_eq_true rfl | decide) only [r121_0, r121_1, r121_4, r121_5, r121_8, r121_9, r121_10, r121_11, r121_12, r121_14, r121_15, r121_18, r121_19, r121_22, r121_23, r121_24, r121_25, r121_28, r121_32, r121_34, r121_35, r121_38, r121_39, r121_40, r121_41, r121_42, r121_45, r121_48, r121_51, r121_52, r121_54, r121_55, r121_58, r121_59, r121_61, r121_63, r121_66, r121_67, r121_69, r121_70, r121_73, r121_74, r121_75, r121_76, r121_77, r121_80, r121_83, r121_86, r121_89, r121_92, r121_95, r121_98, am_gf_42_26, am_ai_63, am_nl_i, am_nl_r, am_nl_n, am_nl_l, Option.bind_some, Option.toList_some, Option.toList_none, List.cons_append, List.nil_append, if_true, if_false, Bool.false_eq_true, Int.reduceEq, Int.reduceAdd, ↓reduceIte, show (4 : Int32) = nI 4 from rfl, ni_le, hc, nI_1]
theorem m_layLaws_1 {d : Nat} {σ0 : am_St} {τ : Int64} {T : tS} {v2 v3 : Value} (hW : WF T) (hJ : JL T σ0) : ∀ k i (σ : am_St), i + k = 4 → IL T σ0 σ i → ∃ σ' : am_St, am_run (d + 4) 121 33 [.ref 42, .int (nI i), v2, v3] [] σ τ = am_run (d + 4) 121 51 [.ref 42, .int (nI 4), v2, v3] [] σ' τ ∧ IL T σ0 σ' 4 := by
  intro k
  induction k with
  | zero =>
    intro i σ hi hI
    have e : i = 4 := by omega
    subst e
    refine ⟨σ, ?_, hI⟩
    rw [r121_33]
    simp (disch := first | assumption | omega | rfl | exact Nat.le_of_ble_eq_true rfl | decide) only [r121_0, r121_1, r121_4, r121_5, r121_8, r121_9, r121_10, r121_11, r121_12, r121_14, r121_15, r121_18, r121_19, r121_22, r121_23, r121_24, r121_25, r121_28, r121_31, r121_32, r121_34, r121_35, r121_38, r121_39, r121_40, r121_41, r121_42, r121_45, r121_48, r121_52, r121_54, r121_55, r121_58, r121_59, r121_61, r121_63, r121_66, r121_67, r121_69, r121_70, r121_73, r121_74, r121_75, r121_76, r121_77, r121_80, r121_83, r121_86, r121_89, r121_92, r121_95, r121_98, am_gf_42_26, am_ai_63, am_nl_i, am_nl_r, am_nl_n, am_nl_l, Option.bind_some, Option.toList_some, Option.toList_none, List.cons_append, List.nil_append, if_true, if_false, Bool.false_eq_true, Int.reduceEq, Int.reduceAdd, ↓reduceIte, show (4 : Int32) = nI 4 from rfl, i_rf]
  | succ k ih =>
    intro i σ hi hI
    have hc : ¬ 4 ≤ i := by omega
    obtain ⟨σ1, a1, a2⟩ := m_tryLaw (d := d) (τ := τ) hW hJ hI (show i < 68 by omega)
    have e0 : lwT i 0 = nI i := by unfold lwT; rw [if_pos (by omega), if_pos rfl]
    have e1 : lwT i 1 = 0 := by unfold lwT; rw [if_pos (by omega)]; rfl
    have e2 : lwT i 2 = -1 := by unfold lwT; rw [if_pos (by omega)]; rfl
    rw [e0, e1, e2] at a1
    obtain ⟨σ', g1, g2⟩ := ih (i + 1) σ1 (by omega) a2
    refine ⟨σ', ?_, g2⟩
    rw [← g1, r121_33]
    simp (disch := first | assumption | omega | rfl | exact Nat.le_of_ble_eq_true rfl | decide) only [r121_0, r121_1, r121_4, r121_5, r121_8, r121_9, r121_10, r121_11, r121_12, r121_14, r121_15, r121_18, r121_19, r121_22, r121_23, r121_24, r121_25, r121_28, r121_31, r121_32, r121_34, r121_35, r121_38, r121_39, r121_40, r121_41, r121_42, r121_45, r121_48, r121_52, r121_54, r121_55, r121_58, r121_59, r121_61, r121_63, r121_66, r121_67, r121_69, r121_70, r121_73, r121_74, r121_75, r121_76, r121_77, r121_80, r121_83, r121_86, r121_89, r121_92, r121_95, r121_98, am_gf_42_26, am_ai_63, am_nl_i, am_nl_r, am_nl_n, am_nl_l, Option.bind_some, Option.toList_some, Option.toList_none, List.cons_append, List.nil_append, if_true, if_false, Bool.false_eq_true, Int.reduceEq, Int.reduceAdd, ↓reduceIte, show (4 : Int32) = nI 4 from rfl, ni_le, hc, a1, nI_1]
theorem m_layLaws_s {d r e : Nat} {σ0 : am_St} {τ : Int64} {T : tS} (hW : WF T) (hJ : JL T σ0) (hr : r < 4) (he : e < 4) : ∀ k i (σ : am_St), i + k = 4 → IL T σ0 σ (4 + 16 * r + 4 * e + i) → ∃ σ' : am_St, am_run (d + 4) 121 68 [.ref 42, .int (nI r), .int (nI (e + 2)), .int (nI i)] [] σ τ = am_run (d + 4) 121 86 [.ref 42, .int (nI r), .int (nI (e + 2)), .int (nI 4)] [] σ' τ ∧ IL T σ0 σ' (4 + 16 * r + 4 * e + 4) := by
  intro k
  induction k with
  | zero =>
    intro i σ hi hI
    have e : i = 4 := by omega
    subst e
    refine ⟨σ, ?_, hI⟩
    rw [r121_68]
    simp (disch := first | assumption | omega | rfl | exact Nat.le_of_ble_eq_true rfl | decide) only [r121_0, r121_1, r121_4, r121_5, r121_8, r121_9, r121_10, r121_11, r121_12, r121_14, r121_15, r121_18, r121_19, r121_22, r121_23, r121_24, r121_25, r121_28, r121_31, r121_32, r121_34, r121_35, r121_38, r121_39, r121_40, r121_41, r121_42, r121_45, r121_48, r121_51, r121_52, r121_54, r121_55, r121_58, r121_59, r121_61, r121_63, r121_66, r121_67, r121_69, r121_70, r121_73, r121_74, r121_75, r121_76, r121_77, r121_80, r121_83, r121_89, r121_92, r121_95, r121_98, am_gf_42_26, am_ai_63, am_nl_i, am_nl_r, am_nl_n, am_nl_l, Option.bind_some, Option.toList_some, Option.toList_none, List.cons_append, List.nil_append, if_true, if_false, Bool.false_eq_true, Int.reduceEq, Int.reduceAdd, ↓reduceIte, show (4 : Int32) = nI 4 from rfl, i_rf]
  | succ k ih =>
    intro i σ hi hI
    have hc : ¬ 4 ≤ i := by omega
    obtain ⟨σ1, a1, a2⟩ := m_tryLaw (d := d) (τ := τ) hW hJ hI (by omega)
    have e0 : lwT (4 + 16 * r + 4 * e + i) 0 = nI r := by unfold lwT; rw [if_neg (by omega), if_pos rfl]; congr 1; omega
    have e1 : lwT (4 + 16 * r + 4 * e + i) 1 = nI (e + 2) := by unfold lwT; rw [if_neg (by omega), if_neg (by decide), if_pos rfl]; congr 1; omega
    have e2 : lwT (4 + 16 * r + 4 * e + i) 2 = nI i := by unfold lwT; rw [if_neg (by omega), if_neg (by decide), if_neg (by decide)]; congr 1; omega
    rw [e0, e1, e2] at a1
    obtain ⟨σ', g1, g2⟩ := ih (i + 1) σ1 (by omega) a2
    refine ⟨σ', ?_, g2⟩
    rw [← g1, r121_68]
    simp (disch := first | assumption | omega | rfl | exact Nat.le_of_ble_eq_true rfl | decide) only [r121_0, r121_1, r121_4, r121_5, r121_8, r121_9, r121_10, r121_11, r121_12, r121_14, r121_15, r121_18, r121_19, r121_22, r121_23, r121_24, r121_25, r121_28, r121_31, r121_32, r121_34, r121_35, r121_38, r121_39, r121_40, r121_41, r121_42, r121_45, r121_48, r121_51, r121_52, r121_54, r121_55, r121_58, r121_59, r121_61, r121_63, r121_66, r121_67, r121_69, r121_70, r121_73, r121_74, r121_75, r121_76, r121_77, r121_80, r121_83, r121_89, r121_92, r121_95, r121_98, am_gf_42_26, am_ai_63, am_nl_i, am_nl_r, am_nl_n, am_nl_l, Option.bind_some, Option.toList_some, Option.toList_none, List.cons_append, List.nil_append, if_true, if_false, Bool.false_eq_true, Int.reduceEq, Int.reduceAdd, ↓reduceIte, show (4 : Int32) = nI 4 from rfl, ni_le, hc, a1, nI_1]
theorem m_layLaws_e {d r : Nat} {σ0 : am_St} {τ : Int64} {T : tS} (hW : WF T) (hJ : JL T σ0) (hr : r < 4) : ∀ k e (v3 : Value) (σ : am_St), e + k = 4 → IL T σ0 σ (4 + 16 * r + 4 * e) → ∃ (σ' : am_St) (v3' : Value), am_run (d + 4) 121 60 [.ref 42, .int (nI r), .int (nI (e + 2)), v3] [] σ τ = am_run (d + 4) 121 92 [.ref 42, .int (nI r), .int (nI 6), v3'] [] σ' τ ∧ IL T σ0 σ' (4 + 16 * r + 16) := by
  intro k
  induction k with
  | zero =>
    intro e v3 σ hi hI
    have e4 : e = 4 := by omega
    subst e4
    refine ⟨σ, v3, ?_, hI⟩
    rw [r121_60]
    simp (disch := first | assumption | omega | rfl | exact Nat.le_of_ble_eq_true rfl | decide) only [r121_0, r121_1, r121_4, r121_5, r121_8, r121_9, r121_10, r121_11, r121_12, r121_14, r121_15, r121_18, r121_19, r121_22, r121_23, r121_24, r121_25, r121_28, r121_31, r121_32, r121_34, r121_35, r121_38, r121_39, r121_40, r121_41, r121_42, r121_45, r121_48, r121_51, r121_52, r121_54, r121_55, r121_58, r121_59, r121_61, r121_63, r121_66, r121_67, r121_69, r121_70, r121_73, r121_74, r121_75, r121_76, r121_77, r121_80, r121_83, r121_86, r121_89, r121_95, r121_98, am_gf_42_26, am_ai_63, am_nl_i, am_nl_r, am_nl_n, am_nl_l, Option.bind_some, Option.toList_some, Option.toList_none, List.cons_append, List.nil_append, if_true, if_false, Bool.false_eq_true, Int.reduceEq, Int.reduceAdd, ↓reduceIte, show (6 : Int32) = nI 6 from rfl, i_rf]
  | succ k ih =>
    intro e v3 σ hi hI
    have hc : ¬ 6 ≤ e + 2 := by omega
    obtain ⟨σ1, a1, a2⟩ := m_layLaws_s (d := d) (τ := τ) hW hJ hr (show e < 4 by omega) 4 0 σ rfl hI
    obtain ⟨σ', v3', g1, g2⟩ := ih (e + 1) (.int (nI 4)) σ1 (by omega) (by rw [show 4 + 16 * r + 4 * (e + 1) = 4 + 16 * r + 4 * e + 4 by omega]; exact a2)
    refine ⟨σ', v3', ?_, g2⟩
    have e0 : nI 0 = 0 := rfl
    rw [e0] at a1
    rw [← g1, r121_60]
    simp (disch := first | assumption | omega | rfl | exact Nat.le_of_ble_eq_true rfl | decide) only [r121_0, r121_1, r121_4, r121_5, r121_8, r121_9, r121_10, r121_11, r121_12, r121_14, r121_15, r121_18, r121_19, r121_22, r121_23, r121_24, r121_25, r121_28, r121_31, r121_32, r121_34, r121_35, r121_38, r121_39, r121_40, r121_41, r121_42, r121_45, r121_48, r121_51, r121_52, r121_54, r121_55, r121_58, r121_59, r121_61, r121_63, r121_66, r121_67, r121_69, r121_70, r121_73, r121_74, r121_75, r121_76, r121_77, r121_80, r121_83, r121_86, r121_89, r121_95, r121_98, am_gf_42_26, am_ai_63, am_nl_i, am_nl_r, am_nl_n, am_nl_l, Option.bind_some, Option.toList_some, Option.toList_none, List.cons_append, List.nil_append, if_true, if_false, Bool.false_eq_true, Int.reduceEq, Int.reduceAdd, ↓reduceIte, show (6 : Int32) = nI 6 from rfl, ni_le, hc]
    rw [a1, r121_86]
    simp (disch := first | assumption | omega | rfl | exact Nat.le_of_ble_eq_true rfl | decide) only [r121_0, r121_1, r121_4, r121_5, r121_8, r121_9, r121_10, r121_11, r121_12, r121_14, r121_15, r121_18, r121_19, r121_22, r121_23, r121_24, r121_25, r121_28, r121_31, r121_32, r121_34, r121_35, r121_38, r121_39, r121_40, r121_41, r121_42, r121_45, r121_48, r121_51, r121_52, r121_54, r121_55, r121_58, r121_59, r121_61, r121_63, r121_66, r121_67, r121_69, r121_70, r121_73, r121_74, r121_75, r121_76, r121_77, r121_80, r121_83, r121_89, r121_95, r121_98, am_gf_42_26, am_ai_63, am_nl_i, am_nl_r, am_nl_n, am_nl_l, Option.bind_some, Option.toList_some, Option.toList_none, List.cons_append, List.nil_append, if_true, if_false, Bool.false_eq_true, Int.reduceEq, Int.reduceAdd, ↓reduceIte, nI_1]
theorem m_layLaws_r {d : Nat} {σ0 : am_St} {τ : Int64} {T : tS} (hW : WF T) (hJ : JL T σ0) : ∀ k r (v2 v3 : Value) (σ : am_St), r + k = 4 → am_nl v2 = v2 → IL T σ0 σ (4 + 16 * r) → ∃ σ' : am_St, am_run (d + 4) 121 53 [.ref 42, .int (nI r), v2, v3] [] σ τ = some (none, σ', τ) ∧ IL T σ0 σ' 68 := by
  intro k
  induction k with
  | zero =>
    intro r v2 v3 σ hi hv hI
    have e4 : r = 4 := by omega
    subst e4
    refine ⟨σ, ?_, hI⟩
    rw [r121_53]
    simp (disch := first | assumption | omega | rfl | exact Nat.le_of_ble_eq_true rfl | decide) only [r121_0, r121_1, r121_4, r121_5, r121_8, r121_9, r121_10, r121_11, r121_12, r121_14, r121_15, r121_18, r121_19, r121_22, r121_23, r121_24, r121_25, r121_28, r121_31, r121_32, r121_34, r121_35, r121_38, r121_39, r121_40, r121_41, r121_42, r121_45, r121_48, r121_51, r121_52, r121_54, r121_55, r121_58, r121_59, r121_61, r121_63, r121_66, r121_67, r121_69, r121_70, r121_73, r121_74, r121_75, r121_76, r121_77, r121_80, r121_83, r121_86, r121_89, r121_92, r121_95, r121_98, am_gf_42_26, am_ai_63, am_nl_i, am_nl_r, am_nl_n, am_nl_l, Option.bind_some, Option.toList_some, Option.toList_none, List.cons_append, List.nil_append, if_true, if_false, Bool.false_eq_true, Int.reduceEq, Int.reduceAdd, ↓reduceIte, show (4 : Int32) = nI 4 from rfl, i_rf]
  | succ k ih =>
    intro r v2 v3 σ hi hv hI
    have hc : ¬ 4 ≤ r := by omega
    obtain ⟨σ1, v3', a1, a2⟩ := m_layLaws_e (d := d) (τ := τ) hW hJ (show r < 4 by omega) 4 0 v3 σ rfl hI
    obtain ⟨σ', g1, g2⟩ := ih (r + 1) (.int (nI 6)) v3' σ1 (by omega) rfl (by rw [show 4 + 16 * (r + 1) = 4 + 16 * r + 16 by omega]; exact a2)
    refine ⟨σ', ?_, g2⟩
    have e0 : nI (0 + 2) = 2 := rfl
    rw [e0] at a1
    rw [← g1, r121_53]
    simp (disch := first | assumption | omega | rfl | exact Nat.le_of_ble_eq_true rfl | decide) only [r121_0, r121_1, r121_4, r121_5, r121_8, r121_9, r121_10, r121_11, r121_12, r121_14, r121_15, r121_18, r121_19, r121_22, r121_23, r121_24, r121_25, r121_28, r121_31, r121_32, r121_34, r121_35, r121_38, r121_39, r121_40, r121_41, r121_42, r121_45, r121_48, r121_51, r121_52, r121_54, r121_55, r121_58, r121_59, r121_61, r121_63, r121_66, r121_67, r121_69, r121_70, r121_73, r121_74, r121_75, r121_76, r121_77, r121_80, r121_83, r121_86, r121_89, r121_92, r121_95, r121_98, am_gf_42_26, am_ai_63, am_nl_i, am_nl_r, am_nl_n, am_nl_l, Option.bind_some, Option.toList_some, Option.toList_none, List.cons_append, List.nil_append, if_true, if_false, Bool.false_eq_true, Int.reduceEq, Int.reduceAdd, ↓reduceIte, show (4 : Int32) = nI 4 from rfl, ni_le, hc]
    rw [a1, r121_92]
    simp (disch := first | assumption | omega | rfl | exact Nat.le_of_ble_eq_true rfl | decide) only [r121_0, r121_1, r121_4, r121_5, r121_8, r121_9, r121_10, r121_11, r121_12, r121_14, r121_15, r121_18, r121_19, r121_22, r121_23, r121_24, r121_25, r121_28, r121_31, r121_32, r121_34, r121_35, r121_38, r121_39, r121_40, r121_41, r121_42, r121_45, r121_48, r121_51, r121_52, r121_54, r121_55, r121_58, r121_59, r121_61, r121_63, r121_66, r121_67, r121_69, r121_70, r121_73, r121_74, r121_75, r121_76, r121_77, r121_80, r121_83, r121_86, r121_89, r121_95, r121_98, am_gf_42_26, am_ai_63, am_nl_i, am_nl_r, am_nl_n, am_nl_l, Option.bind_some, Option.toList_some, Option.toList_none, List.cons_append, List.nil_append, if_true, if_false, Bool.false_eq_true, Int.reduceEq, Int.reduceAdd, ↓reduceIte, nI_1]
theorem m_layLaws {d : Nat} {σ : am_St} {τ : Int64} {T : tS} (hR : RM σ T) (hW : WF T) : ∃ σ' : am_St, am_call (d + 4) 121 [.ref 42] σ τ = some (none, σ', τ) ∧ (∀ a, (a < 54 ∨ (57 < a ∧ a ≠ 63)) → σ' a = σ a) ∧ ∀ j, j < 4 → σ' 63 j = lwsS T (nI j) := by
  obtain ⟨σ1, a1, a2, a3, a4⟩ := m_asT (d := d + 3) (τ := τ) hR hW
  obtain ⟨σ2, b1, b2, b3, b4⟩ := m_layLaws_i (d := d + 4) (τ := τ) (v2 := .null) (v3 := .null) 3 1 (am_up σ1 63 0 0) rfl (by decide) (fun j h1 h2 => by omega)
  have k2 : ∀ a, a ≠ 55 → a ≠ 56 → a ≠ 57 → a ≠ 63 → σ2 a = σ a := fun a x y z w => by rw [b2 a w, am_up_ne w, a2 a x y z]
  have k3 : ∀ a, a ≠ 63 → σ2 a = σ1 a := fun a w => by rw [b2 a w, am_up_ne w]
  have hJ : JL T σ2 := by
    refine ⟨by rw [k2 42 (by decide) (by decide) (by decide) (by decide)]; exact hR.1, fun j hj => ?_⟩
    obtain ⟨q1, q2, q3, q4, q5, q6, q7, q8⟩ := hR.2.1 j hj
    rw [k2 46 (by decide) (by decide) (by decide) (by decide), k2 49 (by decide) (by decide) (by decide) (by decide), k3 55 (by decide), k2 51 (by decide) (by decide) (by decide) (by decide), k3 56 (by decide)]
    exact ⟨q1, q4, (a3 j hj).1, q6, (a3 j hj).2⟩
  have hI0 : IL T σ2 σ2 0 := ⟨fun _ _ _ _ => rfl, by rw [k3 57 (by decide)]; exact a4 3 (by decide), by rw [b3, am_up_eq, pk_us]; rfl, fun j hj => by rw [b4 (j + 1) (by omega) (by omega)]; rfl⟩
  obtain ⟨σ3, c1, c2⟩ := m_layLaws_1 (d := d) (τ := τ) (v2 := .null) (v3 := .null) hW hJ 4 0 σ2 rfl hI0
  obtain ⟨σ4, e1, e2⟩ := m_layLaws_r (d := d) (τ := τ) hW hJ 4 0 .null .null σ3 rfl rfl c2
  obtain ⟨f1, f2, f3, f4⟩ := e2
  refine ⟨σ4, ?_, fun a h => by rw [f1 a (by omega) (by omega) (by omega), k2 a (by omega) (by omega) (by omega) (by omega)], fun j hj => ?_⟩
  · show am_run (d + 4) 121 0 [.ref 42, .null, .null, .null] [] σ τ = _
    have e0 : nI 0 = 0 := rfl
    have e1' : nI 1 = 1 := rfl
    rw [e1'] at b1
    rw [e0] at c1 e1
    have c0 : am_ai false 63 0 = am_ai false 63 (nI 0) := rfl
    simp (disch := first | assumption | omega | rfl | exact Nat.le_of_ble_eq_true rfl | decide) only [r121_0, r121_1, r121_4, r121_5, r121_8, r121_9, r121_10, r121_11, r121_12, r121_14, r121_15, r121_18, r121_19, r121_22, r121_23, r121_24, r121_25, r121_28, r121_31, r121_32, r121_34, r121_35, r121_38, r121_39, r121_40, r121_41, r121_42, r121_45, r121_48, r121_51, r121_52, r121_54, r121_55, r121_58, r121_59, r121_61, r121_63, r121_66, r121_67, r121_69, r121_70, r121_73, r121_74, r121_75, r121_76, r121_77, r121_80, r121_83, r121_86, r121_89, r121_92, r121_95, r121_98, am_gf_42_26, am_ai_63, am_nl_i, am_nl_r, am_nl_n, am_nl_l, Option.bind_some, Option.toList_some, Option.toList_none, List.cons_append, List.nil_append, if_true, if_false, Bool.false_eq_true, Int.reduceEq, Int.reduceAdd, ↓reduceIte, a1, c0]
    rw [b1, r121_31]
    simp (disch := first | assumption | omega | rfl | exact Nat.le_of_ble_eq_true rfl | decide) only [r121_0, r121_1, r121_4, r121_5, r121_8, r121_9, r121_10, r121_11, r121_12, r121_14, r121_15, r121_18, r121_19, r121_22, r121_23, r121_24, r121_25, r121_28, r121_32, r121_34, r121_35, r121_38, r121_39, r121_40, r121_41, r121_42, r121_45, r121_48, r121_51, r121_52, r121_54, r121_55, r121_58, r121_59, r121_61, r121_63, r121_66, r121_67, r121_69, r121_70, r121_73, r121_74, r121_75, r121_76, r121_77, r121_80, r121_83, r121_86, r121_89, r121_92, r121_95, r121_98, am_gf_42_26, am_ai_63, am_nl_i, am_nl_r, am_nl_n, am_nl_l, Option.bind_some, Option.toList_some, Option.toList_none, List.cons_append, List.nil_append, if_true, if_false, Bool.false_eq_true, Int.reduceEq, Int.reduceAdd, ↓reduceIte]
    rw [c1, r121_51]
    simp (disch := first | assumption | omega | rfl | exact Nat.le_of_ble_eq_true rfl | decide) only [r121_0, r121_1, r121_4, r121_5, r121_8, r121_9, r121_10, r121_11, r121_12, r121_14, r121_15, r121_18, r121_19, r121_22, r121_23, r121_24, r121_25, r121_28, r121_32, r121_34, r121_35, r121_38, r121_39, r121_40, r121_41, r121_42, r121_45, r121_48, r121_52, r121_54, r121_55, r121_58, r121_59, r121_61, r121_63, r121_66, r121_67, r121_69, r121_70, r121_73, r121_74, r121_75, r121_76, r121_77, r121_80, r121_83, r121_86, r121_89, r121_92, r121_95, r121_98, am_gf_42_26, am_ai_63, am_nl_i, am_nl_r, am_nl_n, am_nl_l, Option.bind_some, Option.toList_some, Option.toList_none, List.cons_append, List.nil_append, if_true, if_false, Bool.false_eq_true, Int.reduceEq, Int.reduceAdd, ↓reduceIte]
    exact e1
  · unfold lwsS tlsS
    have es : ftF (s_fB T) 68 = s_ft T := rfl
    rw [es] at f3 f4
    rcases (show j = 0 ∨ j = 1 ∨ j = 2 ∨ j = 3 by omega) with rfl | rfl | rfl | rfl
    · exact f3
    · exact f4 0 (by decide)
    · exact f4 1 (by decide)
    · exact f4 2 (by decide)
theorem m_laws {d : Nat} {σ : am_St} {τ : Int64} {T : tS} {x : Int32} (hR : RM σ T) (hW : WF T) : ∃ σ' : am_St, am_call (d + 5) 122 [.ref 42, .int x] σ τ = some (some (.int (sp_laws T x)), σ', τ) ∧ KM σ σ' := by
  show ∃ σ' : am_St, am_run (d + 5) 122 0 [.ref 42, .int x] [] σ τ = _ ∧ _
  unfold sp_laws
  by_cases hx : x < 0 ∨ 3 < x
  · rw [if_pos hx]
    have hi : inS x 0 3 = 0 := by
      unfold inS
      by_cases h1 : x < 0
      · rw [if_pos h1]
      · rw [if_neg h1, if_pos (hx.resolve_left h1)]
    refine ⟨σ, ?_, KM.rf⟩
    simp (disch := first | assumption | omega | rfl | exact Nat.le_of_ble_eq_true rfl | decide) only [r122_0, r122_1, r122_2, r122_3, r122_6, r122_9, r122_12, r122_14, r122_15, r122_16, r122_19, r122_20, r122_23, r122_24, r122_25, am_gf_42_26, am_ai_63, am_nl_i, am_nl_r, am_nl_n, am_nl_l, Option.bind_some, Option.toList_some, Option.toList_none, List.cons_append, List.nil_append, if_true, if_false, Bool.false_eq_true, Int.reduceEq, Int.reduceAdd, ↓reduceIte, c_in03, hi]
  · rw [if_neg hx]
    have h1 : ¬ x < 0 := fun q => hx (Or.inl q)
    have h2 : ¬ 3 < x := fun q => hx (Or.inr q)
    have hi : inS x 0 3 = 1 := by unfold inS; rw [if_neg h1, if_neg h2]
    obtain ⟨k, hk, rfl⟩ := nI_of2 (M := 3) (n := 3) (by decide) h1 (Int32.not_lt.mp h2)
    obtain ⟨σ', g1, g2, g3⟩ := m_layLaws (d := d) (τ := τ) hR hW
    have hk4 : k < 4 := by omega
    refine ⟨σ', ?_, KM.of (fun c hc => g2 c (by omega))⟩
    simp (disch := first | assumption | omega | rfl | exact Nat.le_of_ble_eq_true rfl | decide) only [r122_0, r122_1, r122_2, r122_3, r122_6, r122_9, r122_12, r122_14, r122_15, r122_16, r122_19, r122_20, r122_23, r122_24, r122_25, am_gf_42_26, am_ai_63, am_nl_i, am_nl_r, am_nl_n, am_nl_l, Option.bind_some, Option.toList_some, Option.toList_none, List.cons_append, List.nil_append, if_true, if_false, Bool.false_eq_true, Int.reduceEq, Int.reduceAdd, ↓reduceIte, c_in03, hi, e10, g1, g3 k hk4]
