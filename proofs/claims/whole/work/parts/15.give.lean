/-! OtherName$Names: give, errors -/
def PS (n : Nat) (al : Nat → Bool) (f g : Nat → Nat) : Prop := ∀ i, i < n → al i = false → f i < i ∧ g i < i
theorem anyB_congr {P Q : Nat → Bool} {n : Nat} (h : ∀ j, j < n → P j = Q j) : anyB P n = anyB Q n := by
  induction n with
  | zero => rfl
  | succ n ih => rw [anyB_s, anyB_s, h n (by omega), ih (fun j hj => h j (by omega))]
theorem omS_congr {n p : Nat} {a a' : Nat → Int32} {al : Nat → Bool} {f g : Nat → Nat} (hS : PS n al f g) (hp : p < n) (ha : ∀ j, j ≤ p → a j = a' j) : omS a al g p = omS a' al g p := by
  unfold omS
  split
  · exact ha p (Nat.le_refl p)
  · rename_i h
    have := hS p hp (by simpa using h)
    exact ha _ (by omega)
theorem rlS_congr {n i : Nat} {a a' : Nat → Int32} {al : Nat → Bool} {f g : Nat → Nat} {rule : Int32} (hS : PS n al f g) (hi : i < n) (hal : al i = false) (ha : ∀ j, j < i → a j = a' j) : rlS a al f g rule i = rlS a' al f g rule i := by
  obtain ⟨h1, h2⟩ := hS i hi hal
  unfold rlS
  rw [ha _ h1, ha _ h2, omS_congr hS (p := g i) (by omega) (fun j hj => ha j (by omega)), omS_congr hS (p := f i) (by omega) (fun j hj => ha j (by omega))]
theorem tkS_congr {n i : Nat} {a a' : Nat → Int32} {al : Nat → Bool} {f g : Nat → Nat} (hS : PS n al f g) (hi : i < n) (hal : al i = false) (ha : ∀ j, j < i → a j = a' j) : tkS a al f i = tkS a' al f i := by
  obtain ⟨h1, h2⟩ := hS i hi hal
  unfold tkS
  apply anyB_congr
  intro j hj
  rw [ha j hj, ha _ h1]
theorem npS_congr {n i : Nat} {a a' b b' kd kd' : Nat → Int32} {al : Nat → Bool} {f g : Nat → Nat} {lw lw' : Nat → Int32} (hS : PS n al f g) (hi : i < n) (hal : al i = false) (ha : ∀ j, j < i → a j = a' j) (hb : ∀ j, j < i → b j = b' j) (hk : kd i = kd' i) (hl : ∀ j, j < 4 → lw j = lw' j) : npS a b kd al f g lw i = npS a' b' kd' al f g lw' i := by
  obtain ⟨h1, h2⟩ := hS i hi hal
  unfold npS
  rw [hl 0 (by omega), hl 1 (by omega), hl 2 (by omega), hl 3 (by omega), hk, rlS_congr hS hi hal ha, rlS_congr hS hi hal ha, rlS_congr hS hi hal ha, tkS_congr hS hi hal ha, ha _ h1, hb _ h1]
/-- all names, and how long the rows are -/
def nrA (kd tl : Nat → Int32) (al : Nat → Bool) (f g : Nat → Nat) (lw : Nat → Int32) : Nat → (Nat → Int32) × (Nat → Int32)
  | 0 => (fun _ => 0, fun _ => 0)
  | i + 1 => if al i = true then (upd (nrA kd tl al f g lw i).1 i (tl i), upd (nrA kd tl al f g lw i).2 i 1)
    else (upd (nrA kd tl al f g lw i).1 i (npS (nrA kd tl al f g lw i).1 (nrA kd tl al f g lw i).2 kd al f g lw i), upd (nrA kd tl al f g lw i).2 i (if (nrA kd tl al f g lw i).1 (f i) = npS (nrA kd tl al f g lw i).1 (nrA kd tl al f g lw i).2 kd al f g lw i then (nrA kd tl al f g lw i).2 (f i) + 1 else 1))
theorem nrA_s (kd tl : Nat → Int32) (al : Nat → Bool) (f g : Nat → Nat) (lw : Nat → Int32) (i : Nat) : nrA kd tl al f g lw (i + 1) = if al i = true then (upd (nrA kd tl al f g lw i).1 i (tl i), upd (nrA kd tl al f g lw i).2 i 1)
    else (upd (nrA kd tl al f g lw i).1 i (npS (nrA kd tl al f g lw i).1 (nrA kd tl al f g lw i).2 kd al f g lw i), upd (nrA kd tl al f g lw i).2 i (if (nrA kd tl al f g lw i).1 (f i) = npS (nrA kd tl al f g lw i).1 (nrA kd tl al f g lw i).2 kd al f g lw i then (nrA kd tl al f g lw i).2 (f i) + 1 else 1)) := rfl
def nmS (kd tl : Nat → Int32) (al : Nat → Bool) (f g : Nat → Nat) (lw : Nat → Int32) (n : Nat) : Nat → Int32 := (nrA kd tl al f g lw n).1
theorem c_give_loop {d n nk o r fc tc lc : Nat} {τ : Int64} {kd tl : Nat → Int32} {al : Nat → Bool} {f g : Nat → Nat} {lw : Nat → Int32} (h : NO nk o r) (hfc : am_sh fc = some (.inl (false, 12))) (htc : am_sh tc = some (.inl (false, 12))) (hlc : am_sh lc = some (.inr (4, [0, 0, 0, 0]))) (h12 : n ≤ 12)
    (hne : ∀ c, c = 4 ∨ c = 5 ∨ c = 8 ∨ c = fc ∨ c = tc ∨ c = lc → c ≠ o ∧ c ≠ r) : ∀ k i (σ : am_St), i + k = n → σ 4 0 = nI n → PH n al f g (σ fc) (σ 8) → (∀ j, j < n → σ 5 j = kd j ∧ σ tc j = tl j) → (∀ j, j < 4 → σ lc j = lw j) → (∀ j, j < i → σ o j = (nrA kd tl al f g lw i).1 j ∧ σ r j = (nrA kd tl al f g lw i).2 j) → ∃ σ' : am_St, am_run (d + 3) 35 3 [.ref nk, .ref fc, .ref tc, .ref lc, .int (nI i)] [] σ τ = some (none, σ', τ) ∧ (∀ c, c ≠ o → c ≠ r → σ' c = σ c) ∧ ∀ j, j < n → σ' o j = nmS kd tl al f g lw n j := by
  intro k
  induction k with
  | zero =>
    intro i σ hi hn hP hkt hlw hinv
    have e : i = n := by omega
    subst e
    refine ⟨σ, ?_, fun _ _ _ => rfl, fun j hj => (hinv j hj).1⟩
    rw [r35_3]
    simp (disch := first | assumption | omega | rfl | exact Nat.le_of_ble_eq_true rfl | decide) only [r35_0, r35_1, r35_5, r35_6, r35_9, r35_12, r35_15, r35_16, r35_18, r35_19, r35_22, r35_23, r35_26, r35_29, r35_31, r35_32, r35_35, r35_36, r35_39, r35_41, r35_42, r35_44, r35_45, r35_46, r35_47, r35_50, r35_52, r35_53, r35_54, r35_57, r35_58, r35_61, r35_63, r35_64, r35_66, r35_67, r35_68, r35_71, r35_72, r35_73, r35_76, r35_78, r35_79, r35_80, r35_82, r35_83, r35_84, r35_87, r35_89, r35_90, r35_93, r35_94, r35_97, r35_100, am_gf_4_0, am_gf_4_4, am_gf_15_0, am_gf_18_0, am_gf_15_1, am_gf_18_1, am_gf_15_2, am_gf_18_2, am_ai_8, am_ai_16, am_ai_17, am_ai_19, am_ai_20, am_nl_i, am_nl_r, am_nl_n, am_nl_l, Option.bind_some, Option.toList_some, Option.toList_none, List.cons_append, List.nil_append, if_true, if_false, Bool.false_eq_true, Int.reduceEq, Int.reduceAdd, ↓reduceIte, am_gn2 h, hn, ni_le, Nat.le_refl]
  | succ k ih =>
    intro i σ hi hn hP hkt hlw hinv
    have hk := am_kn h
    have hc : ¬ n ≤ i := by omega
    have hi12 : i < 12 := by omega
    have hor := h.2.2.2
    obtain ⟨a4, b4⟩ := hne 4 (by simp)
    obtain ⟨a5, b5⟩ := hne 5 (by simp)
    obtain ⟨a8, b8⟩ := hne 8 (by simp)
    obtain ⟨aF, bF⟩ := hne fc (by simp)
    obtain ⟨aT, bT⟩ := hne tc (by simp)
    obtain ⟨aL, bL⟩ := hne lc (by simp)
    have keep : ∀ (x y : Int32) (c : Nat), c ≠ o → c ≠ r → am_up (am_up σ o i x) r i y c = σ c := fun x y c h1 h2 => by rw [am_up_ne h2, am_up_ne h1]
    -- the step, whatever the two numbers are
    have step : ∀ x y : Int32, (∀ j, j < i + 1 → (if j = i then x else σ o j) = (nrA kd tl al f g lw (i + 1)).1 j ∧ (if j = i then y else σ r j) = (nrA kd tl al f g lw (i + 1)).2 j) → ∃ σ' : am_St, am_run (d + 3) 35 3 [.ref nk, .ref fc, .ref tc, .ref lc, .int (nI (i + 1))] [] (am_up (am_up σ o i x) r i y) τ = some (none, σ', τ) ∧ (∀ c, c ≠ o → c ≠ r → σ' c = σ c) ∧ ∀ j, j < n → σ' o j = nmS kd tl al f g lw n j := by
      intro x y hxy
      obtain ⟨σ', g1, g2, g3⟩ := ih (i + 1) (am_up (am_up σ o i x) r i y) (by omega) (by rw [keep _ _ 4 a4 b4]; exact hn) (by rw [keep _ _ fc aF bF, keep _ _ 8 a8 b8]; exact hP) (fun j hj => by rw [keep _ _ 5 a5 b5, keep _ _ tc aT bT]; exact hkt j hj) (fun j hj => by rw [keep _ _ lc aL bL]; exact hlw j hj) (fun j hj => by
        rw [am_up_ne hor, am_up_eq, am_up_eq, am_up_ne (Ne.symm hor)]
        exact hxy j hj)
      exact ⟨σ', g1, fun c h1 h2 => by rw [g2 c h1 h2, keep _ _ c h1 h2], g3⟩
    cases hal : al i with
    | true =>
      obtain ⟨e1, e2⟩ := (hP i (by omega)).1 hal
      have hz : (-1 : Int32) < 0 := by decide
      obtain ⟨σ', g1, g2, g3⟩ := step (tl i) 1 (fun j hj => by
        rw [nrA_s, hal, if_pos rfl]
        unfold upd
        dsimp only
        by_cases hji : j = i
        · rw [if_pos hji, if_pos hji, if_pos hji, if_pos hji]; exact ⟨rfl, rfl⟩
        · rw [if_neg hji, if_neg hji, if_neg hji, if_neg hji]; exact hinv j (by omega))
      refine ⟨σ', ?_, g2, g3⟩
      rw [← g1, r35_3]
      simp (disch := first | assumption | omega | rfl | exact Nat.le_of_ble_eq_true rfl | decide) only [r35_0, r35_1, r35_5, r35_6, r35_9, r35_12, r35_15, r35_16, r35_18, r35_19, r35_22, r35_23, r35_26, r35_29, r35_31, r35_32, r35_35, r35_36, r35_39, r35_41, r35_42, r35_44, r35_45, r35_46, r35_47, r35_50, r35_52, r35_53, r35_54, r35_57, r35_58, r35_61, r35_63, r35_64, r35_66, r35_67, r35_68, r35_71, r35_72, r35_73, r35_76, r35_78, r35_79, r35_80, r35_82, r35_83, r35_84, r35_87, r35_89, r35_90, r35_93, r35_94, r35_97, r35_100, am_gf_4_0, am_gf_4_4, am_gf_15_0, am_gf_18_0, am_gf_15_1, am_gf_18_1, am_gf_15_2, am_gf_18_2, am_ai_8, am_ai_16, am_ai_17, am_ai_19, am_ai_20, am_nl_i, am_nl_r, am_nl_n, am_nl_l, Option.bind_some, Option.toList_some, Option.toList_none, List.cons_append, List.nil_append, if_true, if_false, Bool.false_eq_true, Int.reduceEq, Int.reduceAdd, ↓reduceIte, am_gn0 h, am_gn1 h, am_gn2 h, hn, ni_le, hc, am_av hfc, am_av htc, am_ao h, am_ar h, e1, hz, (hkt i (by omega)).2, nI_1]
    | false =>
      obtain ⟨e1, e2, hf, hg⟩ := (hP i (by omega)).2 hal
      have hz : ¬ nI (f i) < 0 := nI_pos (by omega)
      have hz2 : (0 : Int32) ≤ nI (g i) := nI_pos' (by omega)
      have hf12 : f i < 12 := by omega
      have hfi : f i ≠ i := by omega
      have hPS : PS n al f g := fun j hj ha => by
        obtain ⟨-, -, q1, q2⟩ := (hP j hj).2 ha
        exact ⟨q1, q2⟩
      have ex : npS (σ o) (σ r) (σ 5) al f g (σ lc) i = npS (nrA kd tl al f g lw i).1 (nrA kd tl al f g lw i).2 kd al f g lw i := npS_congr hPS (by omega) hal (fun j hj => (hinv j hj).1) (fun j hj => (hinv j hj).2) (hkt i (by omega)).1 hlw
      obtain ⟨σ', g1, g2, g3⟩ := step (npS (nrA kd tl al f g lw i).1 (nrA kd tl al f g lw i).2 kd al f g lw i) (if (nrA kd tl al f g lw i).1 (f i) = npS (nrA kd tl al f g lw i).1 (nrA kd tl al f g lw i).2 kd al f g lw i then (nrA kd tl al f g lw i).2 (f i) + 1 else 1) (fun j hj => by
        rw [nrA_s, hal]
        simp only [Bool.false_eq_true, if_false]
        unfold upd
        (try dsimp only)
        by_cases hji : j = i
        · rw [if_pos hji, if_pos hji, if_pos hji, if_pos hji]; exact ⟨rfl, rfl⟩
        · rw [if_neg hji, if_neg hji, if_neg hji, if_neg hji]; exact hinv j (by omega))
      refine ⟨σ', ?_, g2, g3⟩
      rw [← g1, r35_3]
      simp (disch := first | assumption | omega | rfl | exact Nat.le_of_ble_eq_true rfl | decide) only [r35_0, r35_1, r35_5, r35_6, r35_9, r35_12, r35_15, r35_16, r35_18, r35_19, r35_22, r35_23, r35_26, r35_29, r35_31, r35_32, r35_35, r35_36, r35_39, r35_41, r35_42, r35_44, r35_45, r35_46, r35_47, r35_50, r35_52, r35_53, r35_54, r35_57, r35_58, r35_61, r35_63, r35_64, r35_66, r35_67, r35_68, r35_71, r35_72, r35_73, r35_76, r35_78, r35_79, r35_80, r35_82, r35_83, r35_84, r35_87, r35_89, r35_90, r35_93, r35_94, r35_97, r35_100, am_gf_4_0, am_gf_4_4, am_gf_15_0, am_gf_18_0, am_gf_15_1, am_gf_18_1, am_gf_15_2, am_gf_18_2, am_ai_8, am_ai_16, am_ai_17, am_ai_19, am_ai_20, am_nl_i, am_nl_r, am_nl_n, am_nl_l, Option.bind_some, Option.toList_some, Option.toList_none, List.cons_append, List.nil_append, if_true, if_false, Bool.false_eq_true, Int.reduceEq, Int.reduceAdd, ↓reduceIte, am_gn0 h, am_gn1 h, am_gn2 h, hn, ni_le, hc, am_av hfc, am_av htc, am_ao h, am_ar h, e1, e2, hz, hz2, nI_1, c_ofOne h hfc hlc h12 hP (show i < n by omega) hal, ex, am_up_ne, am_up_eq, pk_us, c_rowWith h hf12, pk_un, (hinv (f i) hf).1, (hinv (f i) hf).2]
/-- the names are given -/
theorem c_give {d n nk o r fc tc lc : Nat} {σ : am_St} {τ : Int64} {kd tl : Nat → Int32} {al : Nat → Bool} {f g : Nat → Nat} {lw : Nat → Int32} (h : NO nk o r) (hfc : am_sh fc = some (.inl (false, 12))) (htc : am_sh tc = some (.inl (false, 12))) (hlc : am_sh lc = some (.inr (4, [0, 0, 0, 0]))) (h12 : n ≤ 12)
    (hne : ∀ c, c = 4 ∨ c = 5 ∨ c = 8 ∨ c = fc ∨ c = tc ∨ c = lc → c ≠ o ∧ c ≠ r) (hn : σ 4 0 = nI n) (hP : PH n al f g (σ fc) (σ 8)) (hkt : ∀ j, j < n → σ 5 j = kd j ∧ σ tc j = tl j) (hlw : ∀ j, j < 4 → σ lc j = lw j) : ∃ σ' : am_St, am_call (d + 3) 35 [.ref nk, .ref fc, .ref tc, .ref lc] σ τ = some (none, σ', τ) ∧ (∀ c, c ≠ o → c ≠ r → σ' c = σ c) ∧ ∀ j, j < n → σ' o j = nmS kd tl al f g lw n j := by
  obtain ⟨σ', g1, g2, g3⟩ := c_give_loop (d := d) (τ := τ) h hfc htc hlc h12 hne n 0 σ (by omega) hn hP hkt hlw (fun j hj => by omega)
  refine ⟨σ', ?_, g2, g3⟩
  show am_run (d + 3) 35 0 [.ref nk, .ref fc, .ref tc, .ref lc, .null] [] σ τ = _
  simp (disch := first | assumption | omega | rfl | exact Nat.le_of_ble_eq_true rfl | decide) only [r35_0, r35_1, r35_5, r35_6, r35_9, r35_12, r35_15, r35_16, r35_18, r35_19, r35_22, r35_23, r35_26, r35_29, r35_31, r35_32, r35_35, r35_36, r35_39, r35_41, r35_42, r35_44, r35_45, r35_46, r35_47, r35_50, r35_52, r35_53, r35_54, r35_57, r35_58, r35_61, r35_63, r35_64, r35_66, r35_67, r35_68, r35_71, r35_72, r35_73, r35_76, r35_78, r35_79, r35_80, r35_82, r35_83, r35_84, r35_87, r35_89, r35_90, r35_93, r35_94, r35_97, r35_100, am_gf_4_0, am_gf_4_4, am_gf_15_0, am_gf_18_0, am_gf_15_1, am_gf_18_1, am_gf_15_2, am_gf_18_2, am_ai_8, am_ai_16, am_ai_17, am_ai_19, am_ai_20, am_nl_i, am_nl_r, am_nl_n, am_nl_l, Option.bind_some, Option.toList_some, Option.toList_none, List.cons_append, List.nil_append, if_true, if_false, Bool.false_eq_true, Int.reduceEq, Int.reduceAdd, ↓reduceIte]
  exact g1
/-- an entry is wrong -/
def wrB (a w : Nat → Int32) (i : Nat) : Bool := !decide (w i = -1) && !decide (w i = a i)
theorem c_isWrong {d i nk o r : Nat} {σ : am_St} {τ : Int64} (h : NO nk o r) (hi : i < 12) : am_call d 41 [.ref nk, .int (nI i)] σ τ = some (some (.int (if wrB (σ o) (σ 12) i = true then 1 else 0)), σ, τ) := by
  show am_run d 41 0 [.ref nk, .int (nI i)] [] σ τ = _
  unfold wrB
  by_cases h1 : σ 12 i = -1
  · simp (disch := first | assumption | omega | rfl | exact Nat.le_of_ble_eq_true rfl | decide) only [r41_0, r41_1, r41_4, r41_7, r41_8, r41_9, r41_10, r41_13, r41_14, r41_17, r41_20, r41_21, r41_22, r41_23, r41_26, r41_27, r41_28, r41_31, r41_32, r41_35, r41_36, am_gf_4_8, am_gf_15_0, am_gf_18_0, am_gf_15_2, am_gf_18_2, am_ai_12, am_ai_16, am_ai_19, am_nl_i, am_nl_r, am_nl_n, am_nl_l, Option.bind_some, Option.toList_some, Option.toList_none, List.cons_append, List.nil_append, if_true, if_false, Bool.false_eq_true, Int.reduceEq, Int.reduceAdd, ↓reduceIte, am_gn0 h, am_gn2 h, am_ao h, h1]
    simp
  · by_cases h2 : σ 12 i = σ o i
    · simp (disch := first | assumption | omega | rfl | exact Nat.le_of_ble_eq_true rfl | decide) only [r41_0, r41_1, r41_4, r41_7, r41_8, r41_9, r41_10, r41_13, r41_14, r41_17, r41_20, r41_21, r41_22, r41_23, r41_26, r41_27, r41_28, r41_31, r41_32, r41_35, r41_36, am_gf_4_8, am_gf_15_0, am_gf_18_0, am_gf_15_2, am_gf_18_2, am_ai_12, am_ai_16, am_ai_19, am_nl_i, am_nl_r, am_nl_n, am_nl_l, Option.bind_some, Option.toList_some, Option.toList_none, List.cons_append, List.nil_append, if_true, if_false, Bool.false_eq_true, Int.reduceEq, Int.reduceAdd, ↓reduceIte, am_gn0 h, am_gn2 h, am_ao h, h1, h2]
      simp [h2]
    · simp (disch := first | assumption | omega | rfl | exact Nat.le_of_ble_eq_true rfl | decide) only [r41_0, r41_1, r41_4, r41_7, r41_8, r41_9, r41_10, r41_13, r41_14, r41_17, r41_20, r41_21, r41_22, r41_23, r41_26, r41_27, r41_28, r41_31, r41_32, r41_35, r41_36, am_gf_4_8, am_gf_15_0, am_gf_18_0, am_gf_15_2, am_gf_18_2, am_ai_12, am_ai_16, am_ai_19, am_nl_i, am_nl_r, am_nl_n, am_nl_l, Option.bind_some, Option.toList_some, Option.toList_none, List.cons_append, List.nil_append, if_true, if_false, Bool.false_eq_true, Int.reduceEq, Int.reduceAdd, ↓reduceIte, am_gn0 h, am_gn2 h, am_ao h, h1, h2]
      simp [h1, h2]
theorem c_errors_loop {d n nk o r : Nat} {σ : am_St} {τ : Int64} (h : NO nk o r) (hn : σ 4 0 = nI n) (h12 : n ≤ 12) : ∀ k i, i + k = n → am_run (d + 1) 42 4 [.ref nk, .int (nI (cnt (wrB (σ o) (σ 12)) i)), .int (nI i)] [] σ τ = some (some (.int (nI (cnt (wrB (σ o) (σ 12)) n))), σ, τ) := by
  intro k
  have hk := am_kn h
  induction k with
  | zero =>
    intro i hi
    have e : i = n := by omega
    subst e
    rw [r42_4]
    simp (disch := first | assumption | omega | rfl | exact Nat.le_of_ble_eq_true rfl | decide) only [r42_0, r42_1, r42_2, r42_3, r42_5, r42_6, r42_9, r42_12, r42_15, r42_16, r42_17, r42_18, r42_21, r42_24, r42_25, r42_28, r42_29, r42_30, r42_31, r42_34, r42_37, r42_38, am_gf_4_0, am_gf_15_2, am_gf_18_2, am_nl_i, am_nl_r, am_nl_n, am_nl_l, Option.bind_some, Option.toList_some, Option.toList_none, List.cons_append, List.nil_append, if_true, if_false, Bool.false_eq_true, Int.reduceEq, Int.reduceAdd, ↓reduceIte, am_gn2 h, hn, ni_le, Nat.le_refl]
  | succ k ih =>
    intro i hi
    have hc : ¬ n ≤ i := by omega
    have hi12 : i < 12 := by omega
    have e10 : ¬ (1 : Int32) = 0 := by decide
    rw [← ih (i + 1) (by omega), r42_4, cnt_s]
    cases hw : wrB (σ o) (σ 12) i <;> simp (disch := first | assumption | omega | rfl | exact Nat.le_of_ble_eq_true rfl | decide) only [r42_0, r42_1, r42_2, r42_3, r42_5, r42_6, r42_9, r42_12, r42_15, r42_16, r42_17, r42_18, r42_21, r42_24, r42_25, r42_28, r42_29, r42_30, r42_31, r42_34, r42_37, r42_38, am_gf_4_0, am_gf_15_2, am_gf_18_2, am_nl_i, am_nl_r, am_nl_n, am_nl_l, Option.bind_some, Option.toList_some, Option.toList_none, List.cons_append, List.nil_append, if_true, if_false, Bool.false_eq_true, Int.reduceEq, Int.reduceAdd, ↓reduceIte, am_gn2 h, hn, ni_le, hc, nI_1, c_isWrong h hi12, hw, e10, Nat.add_zero, show ∀ x : Int32, x + 0 = x from fun x => by simp]
theorem c_errors {d n nk o r : Nat} {σ : am_St} {τ : Int64} (h : NO nk o r) (hn : σ 4 0 = nI n) (h12 : n ≤ 12) : am_call (d + 1) 42 [.ref nk] σ τ = some (some (.int (nI (cnt (wrB (σ o) (σ 12)) n))), σ, τ) := by
  show am_run (d + 1) 42 0 [.ref nk, .null, .null] [] σ τ = _
  simp (disch := first | assumption | omega | rfl | exact Nat.le_of_ble_eq_true rfl | decide) only [r42_0, r42_1, r42_2, r42_3, r42_5, r42_6, r42_9, r42_12, r42_15, r42_16, r42_17, r42_18, r42_21, r42_24, r42_25, r42_28, r42_29, r42_30, r42_31, r42_34, r42_37, r42_38, am_gf_4_0, am_gf_15_2, am_gf_18_2, am_nl_i, am_nl_r, am_nl_n, am_nl_l, Option.bind_some, Option.toList_some, Option.toList_none, List.cons_append, List.nil_append, if_true, if_false, Bool.false_eq_true, Int.reduceEq, Int.reduceAdd, ↓reduceIte]
  exact c_errors_loop h hn h12 n 0 (by omega)
theorem c_firstError_loop {d n nk o r : Nat} {σ : am_St} {τ : Int64} (h : NO nk o r) (hn : σ 4 0 = nI n) (h12 : n ≤ 12) : ∀ k i, i + k = n → am_run (d + 1) 43 2 [.ref nk, .int (nI i)] [] σ τ = some (some (.int (ff (wrB (σ o) (σ 12)) k i)), σ, τ) := by
  intro k
  have hk := am_kn h
  induction k with
  | zero =>
    intro i hi
    have e : i = n := by omega
    subst e
    rw [r43_2]
    simp (disch := first | assumption | omega | rfl | exact Nat.le_of_ble_eq_true rfl | decide) only [r43_0, r43_1, r43_3, r43_4, r43_7, r43_10, r43_13, r43_14, r43_15, r43_18, r43_21, r43_22, r43_23, r43_26, r43_29, r43_30, am_gf_4_0, am_gf_15_2, am_gf_18_2, am_nl_i, am_nl_r, am_nl_n, am_nl_l, Option.bind_some, Option.toList_some, Option.toList_none, List.cons_append, List.nil_append, if_true, if_false, Bool.false_eq_true, Int.reduceEq, Int.reduceAdd, ↓reduceIte, am_gn2 h, hn, ni_le, Nat.le_refl, ff]
  | succ k ih =>
    intro i hi
    have hc : ¬ n ≤ i := by omega
    have hi12 : i < 12 := by omega
    have e10 : ¬ (1 : Int32) = 0 := by decide
    rw [r43_2]
    unfold ff
    cases hw : wrB (σ o) (σ 12) i <;> simp (disch := first | assumption | omega | rfl | exact Nat.le_of_ble_eq_true rfl | decide) only [r43_0, r43_1, r43_3, r43_4, r43_7, r43_10, r43_13, r43_14, r43_15, r43_18, r43_21, r43_22, r43_23, r43_26, r43_29, r43_30, am_gf_4_0, am_gf_15_2, am_gf_18_2, am_nl_i, am_nl_r, am_nl_n, am_nl_l, Option.bind_some, Option.toList_some, Option.toList_none, List.cons_append, List.nil_append, if_true, if_false, Bool.false_eq_true, Int.reduceEq, Int.reduceAdd, ↓reduceIte, am_gn2 h, hn, ni_le, hc, nI_1, c_isWrong h hi12, hw, e10, ih (i + 1) (by omega)]
theorem c_firstError {d n nk o r : Nat} {σ : am_St} {τ : Int64} (h : NO nk o r) (hn : σ 4 0 = nI n) (h12 : n ≤ 12) : am_call (d + 1) 43 [.ref nk] σ τ = some (some (.int (ff (wrB (σ o) (σ 12)) n 0)), σ, τ) := by
  show am_run (d + 1) 43 0 [.ref nk, .null] [] σ τ = _
  simp (disch := first | assumption | omega | rfl | exact Nat.le_of_ble_eq_true rfl | decide) only [r43_0, r43_1, r43_3, r43_4, r43_7, r43_10, r43_13, r43_14, r43_15, r43_18, r43_21, r43_22, r43_23, r43_26, r43_29, r43_30, am_gf_4_0, am_gf_15_2, am_gf_18_2, am_nl_i, am_nl_r, am_nl_n, am_nl_l, Option.bind_some, Option.toList_some, Option.toList_none, List.cons_append, List.nil_append, if_true, if_false, Bool.false_eq_true, Int.reduceEq, Int.reduceAdd, ↓reduceIte]
  exact c_firstError_loop h hn h12 n 0 (by omega)
theorem NO_15 : NO 15 16 17 := ⟨rfl, rfl, rfl, by decide⟩
theorem NO_18 : NO 18 19 20 := ⟨rfl, rfl, rfl, by decide⟩
