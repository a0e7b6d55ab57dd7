/-! OtherName$Names, at any of its places: the object nk with its rows o, r; fathers at fc, told names at tc, a law at lc -/
def NO (nk o r : Nat) : Prop := am_sh nk = some (.inr (7, [o + 3, r + 3, 7])) ∧ am_sh o = some (.inl (false, 12)) ∧ am_sh r = some (.inl (false, 12)) ∧ o ≠ r
theorem am_gn0 {nk o r : Nat} {σ : am_St} {τ : Int64} {f : Value → Option am_Rs} (h : NO nk o r) : am_gf nk 7 0 σ τ f = f (.ref o) := by
  unfold am_gf; rw [h.1]; rfl
theorem am_gn1 {nk o r : Nat} {σ : am_St} {τ : Int64} {f : Value → Option am_Rs} (h : NO nk o r) : am_gf nk 7 1 σ τ f = f (.ref r) := by
  unfold am_gf; rw [h.1]; rfl
theorem am_gn2 {nk o r : Nat} {σ : am_St} {τ : Int64} {f : Value → Option am_Rs} (h : NO nk o r) : am_gf nk 7 2 σ τ f = f (.ref 4) := by
  unfold am_gf; rw [h.1]; rfl
theorem am_kn {nk o r : Nat} (h : NO nk o r) : am_kc nk = 7 := by
  unfold am_kc; rw [h.1]
theorem am_av {k j : Nat} {f : Nat → Option am_Rs} (h : am_sh k = some (.inl (false, 12))) (hj : j < 12) : am_ai false k (nI j) f = f j := am_ai_of h hj (by omega)
theorem am_ao {nk o r j : Nat} {f : Nat → Option am_Rs} (h : NO nk o r) (hj : j < 12) : am_ai false o (nI j) f = f j := am_ai_of h.2.1 hj (by omega)
theorem am_ar {nk o r j : Nat} {f : Nat → Option am_Rs} (h : NO nk o r) (hj : j < 12) : am_ai false r (nI j) f = f j := am_ai_of h.2.2.1 hj (by omega)
theorem am_gl0 {lc : Nat} {σ : am_St} {τ : Int64} {f : Value → Option am_Rs} (h : am_sh lc = some (.inr (4, [0, 0, 0, 0]))) : am_gf lc 4 0 σ τ f = f (.int (σ lc 0)) := by
  unfold am_gf; rw [h]; rfl
theorem am_gl1 {lc : Nat} {σ : am_St} {τ : Int64} {f : Value → Option am_Rs} (h : am_sh lc = some (.inr (4, [0, 0, 0, 0]))) : am_gf lc 4 1 σ τ f = f (.int (σ lc 1)) := by
  unfold am_gf; rw [h]; rfl
theorem am_gl2 {lc : Nat} {σ : am_St} {τ : Int64} {f : Value → Option am_Rs} (h : am_sh lc = some (.inr (4, [0, 0, 0, 0]))) : am_gf lc 4 2 σ τ f = f (.int (σ lc 2)) := by
  unfold am_gf; rw [h]; rfl
theorem am_gl3 {lc : Nat} {σ : am_St} {τ : Int64} {f : Value → Option am_Rs} (h : am_sh lc = some (.inr (4, [0, 0, 0, 0]))) : am_gf lc 4 3 σ τ f = f (.int (σ lc 3)) := by
  unfold am_gf; rw [h]; rfl
theorem am_nm1 {i : Nat} (hi : i < 2147483648) : ¬ nI i = -1 := by
  intro q
  have := congrArg Int32.toInt q
  rw [nI_toInt (by omega)] at this
  have h2 : (-1 : Int32).toInt = -1 := by decide
  rw [h2] at this
  omega
/-- who has parents, and whom -/
def PH (n : Nat) (al : Nat → Bool) (f g : Nat → Nat) (F M : Nat → Int32) : Prop := ∀ i, i < n → (al i = true → F i = -1 ∧ M i = -1) ∧ (al i = false → F i = nI (f i) ∧ M i = nI (g i) ∧ f i < i ∧ g i < i)
theorem c_rowWith {d f nk o r : Nat} {σ : am_St} {τ : Int64} {x : Int32} (h : NO nk o r) (hf : f < 12) : am_call d 38 [.ref nk, .int (nI f), .int x] σ τ = some (some (.int (if σ o f = x then σ r f + 1 else 1)), σ, τ) := by
  show am_run d 38 0 [.ref nk, .int (nI f), .int x] [] σ τ = _
  simp (disch := first | assumption | omega | rfl | exact Nat.le_of_ble_eq_true rfl | decide) only [r38_0, r38_1, r38_4, r38_5, r38_6, r38_7, r38_10, r38_11, r38_14, r38_15, r38_16, r38_17, r38_18, r38_21, r38_22, am_gf_15_0, am_gf_18_0, am_gf_15_1, am_gf_18_1, am_ai_16, am_ai_17, am_ai_19, am_ai_20, am_nl_i, am_nl_r, am_nl_n, am_nl_l, Option.bind_some, Option.toList_some, Option.toList_none, List.cons_append, List.nil_append, if_true, if_false, Bool.false_eq_true, Int.reduceEq, Int.reduceAdd, ↓reduceIte, am_gn0 h, am_gn1 h, am_ao h, am_ar h]
  split <;> rfl
/-- the name of the mother of one, or its own -/
def omS (a : Nat → Int32) (al : Nat → Bool) (g : Nat → Nat) (p : Nat) : Int32 := if al p = true then a p else a (g p)
theorem c_ofMotherOf {d n p nk o r : Nat} {σ : am_St} {τ : Int64} {al : Nat → Bool} {f g : Nat → Nat} {F : Nat → Int32} (h : NO nk o r) (h12 : n ≤ 12) (hP : PH n al f g F (σ 8)) (hp : p < n) : am_call d 40 [.ref nk, .int (nI p)] σ τ = some (some (.int (omS (σ o) al g p)), σ, τ) := by
  show am_run d 40 0 [.ref nk, .int (nI p), .null] [] σ τ = _
  obtain ⟨h1, h2⟩ := hP p hp
  cases ha : al p with
  | true =>
    obtain ⟨-, e⟩ := h1 ha
    have hz : ¬ (0 : Int32) ≤ -1 := by decide
    simp (disch := first | assumption | omega | rfl | exact Nat.le_of_ble_eq_true rfl | decide) only [r40_0, r40_1, r40_4, r40_7, r40_8, r40_9, r40_10, r40_11, r40_14, r40_15, r40_18, r40_19, r40_20, r40_23, r40_24, r40_27, r40_28, r40_29, am_gf_4_4, am_gf_15_0, am_gf_18_0, am_gf_15_2, am_gf_18_2, am_ai_8, am_ai_16, am_ai_19, am_nl_i, am_nl_r, am_nl_n, am_nl_l, Option.bind_some, Option.toList_some, Option.toList_none, List.cons_append, List.nil_append, if_true, if_false, Bool.false_eq_true, Int.reduceEq, Int.reduceAdd, ↓reduceIte, am_gn0 h, am_gn2 h, am_ao h, e, hz, if_false, omS, ha, if_true]
  | false =>
    obtain ⟨-, e, -, hg⟩ := h2 ha
    have hz : (0 : Int32) ≤ nI (g p) := nI_pos' (by omega)
    have hff : ¬ false = true := by decide
    simp (disch := first | assumption | omega | rfl | exact Nat.le_of_ble_eq_true rfl | decide) only [r40_0, r40_1, r40_4, r40_7, r40_8, r40_9, r40_10, r40_11, r40_14, r40_15, r40_18, r40_19, r40_20, r40_23, r40_24, r40_27, r40_28, r40_29, am_gf_4_4, am_gf_15_0, am_gf_18_0, am_gf_15_2, am_gf_18_2, am_ai_8, am_ai_16, am_ai_19, am_nl_i, am_nl_r, am_nl_n, am_nl_l, Option.bind_some, Option.toList_some, Option.toList_none, List.cons_append, List.nil_append, if_true, if_false, Bool.false_eq_true, Int.reduceEq, Int.reduceAdd, ↓reduceIte, am_gn0 h, am_gn2 h, am_ao h, e, hz, if_true, omS, ha, hff, if_false]
/-- a rule's name -/
def rlS (a : Nat → Int32) (al : Nat → Bool) (f g : Nat → Nat) (rule : Int32) (i : Nat) : Int32 := if rule = 1 then a (g i) else if rule = 2 then omS a al g (g i) else if rule = 3 then omS a al g (f i) else a (f i)
theorem c_byRule {d n i nk o r fc : Nat} {σ : am_St} {τ : Int64} {rule : Int32} {al : Nat → Bool} {f g : Nat → Nat} (h : NO nk o r) (hfc : am_sh fc = some (.inl (false, 12))) (h12 : n ≤ 12) (hP : PH n al f g (σ fc) (σ 8)) (hi : i < n) (ha : al i = false) : am_call (d + 1) 39 [.ref nk, .int rule, .int (nI i), .ref fc] σ τ = some (some (.int (rlS (σ o) al f g rule i)), σ, τ) := by
  show am_run (d + 1) 39 0 [.ref nk, .int rule, .int (nI i), .ref fc, .null, .null] [] σ τ = _
  obtain ⟨e1, e2, hf, hg⟩ := (hP i hi).2 ha
  have hk := am_kn h
  have hi12 : i < 12 := by omega
  have hf12 : f i < 12 := by omega
  have hg12 : g i < 12 := by omega
  have hfn : f i < n := by omega
  have hgn : g i < n := by omega
  unfold rlS
  by_cases h1 : rule = 1
  · subst h1
    have q1 : (1 : Int32).toInt = 1 := by decide
    simp (disch := first | assumption | omega | rfl | exact Nat.le_of_ble_eq_true rfl | decide) only [r39_0, r39_1, r39_2, r39_3, r39_5, r39_6, r39_9, r39_12, r39_13, r39_14, r39_16, r39_17, r39_44, r39_45, r39_48, r39_50, r39_51, r39_52, r39_53, r39_55, r39_58, r39_59, r39_60, r39_62, r39_65, r39_66, r39_67, r39_70, r39_72, r39_73, am_gf_4_4, am_gf_15_0, am_gf_18_0, am_gf_15_2, am_gf_18_2, am_ai_8, am_ai_16, am_ai_19, am_nl_i, am_nl_r, am_nl_n, am_nl_l, Option.bind_some, Option.toList_some, Option.toList_none, List.cons_append, List.nil_append, if_true, if_false, Bool.false_eq_true, Int.reduceEq, Int.reduceAdd, ↓reduceIte, am_gn0 h, am_gn2 h, am_ao h, am_av hfc, e1, e2, am_sw, q1, if_true]
  · by_cases h2 : rule = 2
    · subst h2
      have q1 : ¬ (2 : Int32).toInt = 1 := by decide
      have q2 : (2 : Int32).toInt = 2 := by decide
      simp (disch := first | assumption | omega | rfl | exact Nat.le_of_ble_eq_true rfl | decide) only [r39_0, r39_1, r39_2, r39_3, r39_5, r39_6, r39_9, r39_12, r39_13, r39_14, r39_16, r39_17, r39_44, r39_45, r39_48, r39_50, r39_51, r39_52, r39_53, r39_55, r39_58, r39_59, r39_60, r39_62, r39_65, r39_66, r39_67, r39_70, r39_72, r39_73, am_gf_4_4, am_gf_15_0, am_gf_18_0, am_gf_15_2, am_gf_18_2, am_ai_8, am_ai_16, am_ai_19, am_nl_i, am_nl_r, am_nl_n, am_nl_l, Option.bind_some, Option.toList_some, Option.toList_none, List.cons_append, List.nil_append, if_true, if_false, Bool.false_eq_true, Int.reduceEq, Int.reduceAdd, ↓reduceIte, am_gn0 h, am_gn2 h, am_ao h, am_av hfc, e1, e2, am_sw, q1, q2, if_true, if_false, c_ofMotherOf h h12 hP hgn, h1]
    · by_cases h3 : rule = 3
      · subst h3
        have q1 : ¬ (3 : Int32).toInt = 1 := by decide
        have q2 : ¬ (3 : Int32).toInt = 2 := by decide
        have q3 : (3 : Int32).toInt = 3 := by decide
        simp (disch := first | assumption | omega | rfl | exact Nat.le_of_ble_eq_true rfl | decide) only [r39_0, r39_1, r39_2, r39_3, r39_5, r39_6, r39_9, r39_12, r39_13, r39_14, r39_16, r39_17, r39_44, r39_45, r39_48, r39_50, r39_51, r39_52, r39_53, r39_55, r39_58, r39_59, r39_60, r39_62, r39_65, r39_66, r39_67, r39_70, r39_72, r39_73, am_gf_4_4, am_gf_15_0, am_gf_18_0, am_gf_15_2, am_gf_18_2, am_ai_8, am_ai_16, am_ai_19, am_nl_i, am_nl_r, am_nl_n, am_nl_l, Option.bind_some, Option.toList_some, Option.toList_none, List.cons_append, List.nil_append, if_true, if_false, Bool.false_eq_true, Int.reduceEq, Int.reduceAdd, ↓reduceIte, am_gn0 h, am_gn2 h, am_ao h, am_av hfc, e1, e2, am_sw, q1, q2, q3, if_true, if_false, c_ofMotherOf h h12 hP hfn, h1, h2]
      · have q1 : ¬ rule.toInt = 1 := lv_neT h1 rfl
        have q2 : ¬ rule.toInt = 2 := lv_neT h2 rfl
        have q3 : ¬ rule.toInt = 3 := lv_neT h3 rfl
        simp (disch := first | assumption | omega | rfl | exact Nat.le_of_ble_eq_true rfl | decide) only [r39_0, r39_1, r39_2, r39_3, r39_5, r39_6, r39_9, r39_12, r39_13, r39_14, r39_16, r39_17, r39_44, r39_45, r39_48, r39_50, r39_51, r39_52, r39_53, r39_55, r39_58, r39_59, r39_60, r39_62, r39_65, r39_66, r39_67, r39_70, r39_72, r39_73, am_gf_4_4, am_gf_15_0, am_gf_18_0, am_gf_15_2, am_gf_18_2, am_ai_8, am_ai_16, am_ai_19, am_nl_i, am_nl_r, am_nl_n, am_nl_l, Option.bind_some, Option.toList_some, Option.toList_none, List.cons_append, List.nil_append, if_true, if_false, Bool.false_eq_true, Int.reduceEq, Int.reduceAdd, ↓reduceIte, am_gn0 h, am_gn2 h, am_ao h, am_av hfc, e1, e2, am_sw, q1, q2, q3, if_true, if_false, h1, h2, h3]
/-- is there such a one among the first n -/
def anyB (P : Nat → Bool) : Nat → Bool
  | 0 => false
  | n + 1 => anyB P n || P n
theorem anyB_s (P : Nat → Bool) (n : Nat) : anyB P (n + 1) = (anyB P n || P n) := rfl
theorem anyB_hit {P : Nat → Bool} {i n : Nat} (h : i < n) (hp : P i = true) : anyB P n = true := by
  induction n with
  | zero => omega
  | succ n ih =>
    rw [anyB_s]
    by_cases e : i = n
    · subst e; rw [hp]; simp
    · rw [ih (by omega)]; rfl
/-- an heir's name is taken -/
def tkS (a : Nat → Int32) (al : Nat → Bool) (f : Nat → Nat) (i : Nat) : Bool := anyB (fun k => !al k && decide (f k = f i) && decide (a k = a (f i))) i
theorem c_isTaken_loop {d n i nk o r fc : Nat} {σ : am_St} {τ : Int64} {al : Nat → Bool} {f g : Nat → Nat} (h : NO nk o r) (hfc : am_sh fc = some (.inl (false, 12))) (h12 : n ≤ 12) (hP : PH n al f g (σ fc) (σ 8)) (hi : i < n) (ha : al i = false) : ∀ k j, j + k = i → anyB (fun k => !al k && decide (f k = f i) && decide (σ o k = σ o (f i))) j = false → am_run d 37 2 [.ref nk, .int (nI i), .ref fc, .int (nI j)] [] σ τ = some (some (.int (if tkS (σ o) al f i = true then 1 else 0)), σ, τ) := by
  intro k
  obtain ⟨e1, e2, hf, hg⟩ := (hP i hi).2 ha
  induction k with
  | zero =>
    intro j hj hno
    have e : j = i := by omega
    subst e
    rw [r37_2]
    unfold tkS
    simp (disch := first | assumption | omega | rfl | exact Nat.le_of_ble_eq_true rfl | decide) only [r37_0, r37_1, r37_3, r37_4, r37_7, r37_8, r37_9, r37_10, r37_11, r37_12, r37_13, r37_16, r37_17, r37_20, r37_21, r37_22, r37_23, r37_26, r37_27, r37_28, r37_29, r37_30, r37_33, r37_34, r37_35, r37_38, r37_41, r37_42, am_gf_15_0, am_gf_18_0, am_ai_16, am_ai_19, am_nl_i, am_nl_r, am_nl_n, am_nl_l, Option.bind_some, Option.toList_some, Option.toList_none, List.cons_append, List.nil_append, if_true, if_false, Bool.false_eq_true, Int.reduceEq, Int.reduceAdd, ↓reduceIte, ni_le, Nat.le_refl, hno]
  | succ k ih =>
    intro j hj hno
    have hc : ¬ i ≤ j := by omega
    have hj12 : j < 12 := by omega
    have hi12 : i < 12 := by omega
    have hf12 : f i < 12 := by omega
    rw [r37_2]
    simp (disch := first | assumption | omega | rfl | exact Nat.le_of_ble_eq_true rfl | decide) only [r37_0, r37_1, r37_3, r37_4, r37_7, r37_8, r37_9, r37_10, r37_11, r37_12, r37_13, r37_16, r37_17, r37_20, r37_21, r37_22, r37_23, r37_26, r37_27, r37_28, r37_29, r37_30, r37_33, r37_34, r37_35, r37_38, r37_41, r37_42, am_gf_15_0, am_gf_18_0, am_ai_16, am_ai_19, am_nl_i, am_nl_r, am_nl_n, am_nl_l, Option.bind_some, Option.toList_some, Option.toList_none, List.cons_append, List.nil_append, if_true, if_false, Bool.false_eq_true, Int.reduceEq, Int.reduceAdd, ↓reduceIte, ni_le, hc, am_gn0 h, am_ao h, am_av hfc, e1, nI_1]
    cases haj : al j with
    | true =>
      obtain ⟨e3, -⟩ := (hP j (by omega)).1 haj
      have : ¬ (-1 : Int32) = nI (f i) := fun q => am_nm1 (by omega) q.symm
      rw [e3, if_neg this]
      exact ih (j + 1) (by omega) (by rw [anyB_s, hno, haj]; rfl)
    | false =>
      obtain ⟨e3, -, hfj, -⟩ := (hP j (by omega)).2 haj
      rw [e3]
      by_cases h3 : f j = f i
      · rw [if_pos (by rw [h3])]
        by_cases h4 : σ o j = σ o (f i)
        · rw [if_pos h4]
          have : tkS (σ o) al f i = true := anyB_hit (i := j) (by omega) (by simp [haj, h3, h4])
          rw [this]
          rfl
        · rw [if_neg h4]
          exact ih (j + 1) (by omega) (by rw [anyB_s, hno, haj]; simp [h4])
      · rw [if_neg (by rw [ni_eq (by omega) (by omega)]; exact h3)]
        exact ih (j + 1) (by omega) (by rw [anyB_s, hno, haj]; simp [h3])
theorem c_isTaken {d n i nk o r fc : Nat} {σ : am_St} {τ : Int64} {al : Nat → Bool} {f g : Nat → Nat} (h : NO nk o r) (hfc : am_sh fc = some (.inl (false, 12))) (h12 : n ≤ 12) (hP : PH n al f g (σ fc) (σ 8)) (hi : i < n) (ha : al i = false) : am_call d 37 [.ref nk, .int (nI i), .ref fc] σ τ = some (some (.int (if tkS (σ o) al f i = true then 1 else 0)), σ, τ) := by
  show am_run d 37 0 [.ref nk, .int (nI i), .ref fc, .null] [] σ τ = _
  simp (disch := first | assumption | omega | rfl | exact Nat.le_of_ble_eq_true rfl | decide) only [r37_0, r37_1, r37_3, r37_4, r37_7, r37_8, r37_9, r37_10, r37_11, r37_12, r37_13, r37_16, r37_17, r37_20, r37_21, r37_22, r37_23, r37_26, r37_27, r37_28, r37_29, r37_30, r37_33, r37_34, r37_35, r37_38, r37_41, r37_42, am_gf_15_0, am_gf_18_0, am_ai_16, am_ai_19, am_nl_i, am_nl_r, am_nl_n, am_nl_l, Option.bind_some, Option.toList_some, Option.toList_none, List.cons_append, List.nil_append, if_true, if_false, Bool.false_eq_true, Int.reduceEq, Int.reduceAdd, ↓reduceIte]
  exact c_isTaken_loop h hfc h12 hP hi ha i 0 (by omega) rfl
/-- the name of one with parents, out of the names a and the rows' lengths b of those ahead -/
def npS (a b : Nat → Int32) (kd : Nat → Int32) (al : Nat → Bool) (f g : Nat → Nat) (lw : Nat → Int32) (i : Nat) : Int32 :=
  if kd i = 2 ∨ (kd i = 4 ∧ tkS a al f i = true) then rlS a al f g (lw 3) i
  else if kd i = 4 then a (f i)
  else if 0 < lw 1 ∧ lw 1 ≤ (if a (f i) = rlS a al f g (lw 0) i then b (f i) + 1 else 1) then rlS a al f g (lw 2) i else rlS a al f g (lw 0) i
theorem c_ofOne {d n i nk o r fc lc : Nat} {σ : am_St} {τ : Int64} {al : Nat → Bool} {f g : Nat → Nat} (h : NO nk o r) (hfc : am_sh fc = some (.inl (false, 12))) (hlc : am_sh lc = some (.inr (4, [0, 0, 0, 0]))) (h12 : n ≤ 12) (hP : PH n al f g (σ fc) (σ 8)) (hi : i < n) (ha : al i = false) : am_call (d + 2) 36 [.ref nk, .int (nI i), .ref fc, .ref lc] σ τ = some (some (.int (npS (σ o) (σ r) (σ 5) al f g (σ lc) i)), σ, τ) := by
  show am_run (d + 2) 36 0 [.ref nk, .int (nI i), .ref fc, .ref lc, .null, .null] [] σ τ = _
  obtain ⟨e1, e2, hf, hg⟩ := (hP i hi).2 ha
  have hk := am_kn h
  have hi12 : i < 12 := by omega
  have hf12 : f i < 12 := by omega
  have e24 : ¬ (2 : Int32) = 4 := by decide
  have e10 : ¬ (1 : Int32) = 0 := by decide
  unfold npS
  by_cases h1 : σ 5 i = 2
  · simp (disch := first | assumption | omega | rfl | exact Nat.le_of_ble_eq_true rfl | decide) only [r36_0, r36_1, r36_4, r36_7, r36_8, r36_9, r36_10, r36_13, r36_14, r36_17, r36_20, r36_21, r36_22, r36_23, r36_26, r36_27, r36_28, r36_29, r36_32, r36_35, r36_36, r36_37, r36_40, r36_41, r36_42, r36_45, r36_46, r36_47, r36_50, r36_53, r36_54, r36_55, r36_56, r36_59, r36_60, r36_63, r36_64, r36_65, r36_66, r36_67, r36_68, r36_69, r36_70, r36_73, r36_74, r36_75, r36_78, r36_80, r36_81, r36_84, r36_87, r36_88, r36_89, r36_90, r36_91, r36_93, r36_96, r36_97, r36_100, r36_103, r36_104, r36_107, r36_108, r36_110, r36_112, r36_115, r36_116, r36_117, r36_120, r36_121, r36_122, r36_125, r36_128, r36_130, am_gf_4_1, am_gf_3_0, am_gf_32_0, am_gf_33_0, am_gf_3_1, am_gf_32_1, am_gf_33_1, am_gf_3_2, am_gf_32_2, am_gf_33_2, am_gf_3_3, am_gf_32_3, am_gf_33_3, am_gf_15_0, am_gf_18_0, am_gf_15_2, am_gf_18_2, am_ai_5, am_ai_16, am_ai_19, am_nl_i, am_nl_r, am_nl_n, am_nl_l, Option.bind_some, Option.toList_some, Option.toList_none, List.cons_append, List.nil_append, if_true, if_false, Bool.false_eq_true, Int.reduceEq, Int.reduceAdd, ↓reduceIte, am_gn0 h, am_gn2 h, am_gl3 hlc, h1, true_or, c_byRule h hfc h12 hP hi ha]
  · by_cases h2 : σ 5 i = 4
    · have e42 : ¬ (4 : Int32) = 2 := by decide
      cases ht : tkS (σ o) al f i with
      | true =>
        simp (disch := first | assumption | omega | rfl | exact Nat.le_of_ble_eq_true rfl | decide) only [r36_0, r36_1, r36_4, r36_7, r36_8, r36_9, r36_10, r36_13, r36_14, r36_17, r36_20, r36_21, r36_22, r36_23, r36_26, r36_27, r36_28, r36_29, r36_32, r36_35, r36_36, r36_37, r36_40, r36_41, r36_42, r36_45, r36_46, r36_47, r36_50, r36_53, r36_54, r36_55, r36_56, r36_59, r36_60, r36_63, r36_64, r36_65, r36_66, r36_67, r36_68, r36_69, r36_70, r36_73, r36_74, r36_75, r36_78, r36_80, r36_81, r36_84, r36_87, r36_88, r36_89, r36_90, r36_91, r36_93, r36_96, r36_97, r36_100, r36_103, r36_104, r36_107, r36_108, r36_110, r36_112, r36_115, r36_116, r36_117, r36_120, r36_121, r36_122, r36_125, r36_128, r36_130, am_gf_4_1, am_gf_3_0, am_gf_32_0, am_gf_33_0, am_gf_3_1, am_gf_32_1, am_gf_33_1, am_gf_3_2, am_gf_32_2, am_gf_33_2, am_gf_3_3, am_gf_32_3, am_gf_33_3, am_gf_15_0, am_gf_18_0, am_gf_15_2, am_gf_18_2, am_ai_5, am_ai_16, am_ai_19, am_nl_i, am_nl_r, am_nl_n, am_nl_l, Option.bind_some, Option.toList_some, Option.toList_none, List.cons_append, List.nil_append, if_true, if_false, Bool.false_eq_true, Int.reduceEq, Int.reduceAdd, ↓reduceIte, am_gn0 h, am_gn2 h, am_gl3 hlc, h2, e42, e10, ht, c_isTaken h hfc h12 hP hi ha, false_or, true_and, c_byRule h hfc h12 hP hi ha]
      | false =>
        simp (disch := first | assumption | omega | rfl | exact Nat.le_of_ble_eq_true rfl | decide) only [r36_0, r36_1, r36_4, r36_7, r36_8, r36_9, r36_10, r36_13, r36_14, r36_17, r36_20, r36_21, r36_22, r36_23, r36_26, r36_27, r36_28, r36_29, r36_32, r36_35, r36_36, r36_37, r36_40, r36_41, r36_42, r36_45, r36_46, r36_47, r36_50, r36_53, r36_54, r36_55, r36_56, r36_59, r36_60, r36_63, r36_64, r36_65, r36_66, r36_67, r36_68, r36_69, r36_70, r36_73, r36_74, r36_75, r36_78, r36_80, r36_81, r36_84, r36_87, r36_88, r36_89, r36_90, r36_91, r36_93, r36_96, r36_97, r36_100, r36_103, r36_104, r36_107, r36_108, r36_110, r36_112, r36_115, r36_116, r36_117, r36_120, r36_121, r36_122, r36_125, r36_128, r36_130, am_gf_4_1, am_gf_3_0, am_gf_32_0, am_gf_33_0, am_gf_3_1, am_gf_32_1, am_gf_33_1, am_gf_3_2, am_gf_32_2, am_gf_33_2, am_gf_3_3, am_gf_32_3, am_gf_33_3, am_gf_15_0, am_gf_18_0, am_gf_15_2, am_gf_18_2, am_ai_5, am_ai_16, am_ai_19, am_nl_i, am_nl_r, am_nl_n, am_nl_l, Option.bind_some, Option.toList_some, Option.toList_none, List.cons_append, List.nil_append, if_true, if_false, Bool.false_eq_true, Int.reduceEq, Int.reduceAdd, ↓reduceIte, am_gn0 h, am_gn2 h, am_gl3 hlc, h2, e42, ht, c_isTaken h hfc h12 hP hi ha, am_av hfc, am_ao h, e1, false_or, true_and, and_false]
    · simp (disch := first | assumption | omega | rfl | exact Nat.le_of_ble_eq_true rfl | decide) only [r36_0, r36_1, r36_4, r36_7, r36_8, r36_9, r36_10, r36_13, r36_14, r36_17, r36_20, r36_21, r36_22, r36_23, r36_26, r36_27, r36_28, r36_29, r36_32, r36_35, r36_36, r36_37, r36_40, r36_41, r36_42, r36_45, r36_46, r36_47, r36_50, r36_53, r36_54, r36_55, r36_56, r36_59, r36_60, r36_63, r36_64, r36_65, r36_66, r36_67, r36_68, r36_69, r36_70, r36_73, r36_74, r36_75, r36_78, r36_80, r36_81, r36_84, r36_87, r36_88, r36_89, r36_90, r36_91, r36_93, r36_96, r36_97, r36_100, r36_103, r36_104, r36_107, r36_108, r36_110, r36_112, r36_115, r36_116, r36_117, r36_120, r36_121, r36_122, r36_125, r36_128, r36_130, am_gf_4_1, am_gf_3_0, am_gf_32_0, am_gf_33_0, am_gf_3_1, am_gf_32_1, am_gf_33_1, am_gf_3_2, am_gf_32_2, am_gf_33_2, am_gf_3_3, am_gf_32_3, am_gf_33_3, am_gf_15_0, am_gf_18_0, am_gf_15_2, am_gf_18_2, am_ai_5, am_ai_16, am_ai_19, am_nl_i, am_nl_r, am_nl_n, am_nl_l, Option.bind_some, Option.toList_some, Option.toList_none, List.cons_append, List.nil_append, if_true, if_false, Bool.false_eq_true, Int.reduceEq, Int.reduceAdd, ↓reduceIte, am_gn0 h, am_gn2 h, am_gl0 hlc, am_gl1 hlc, am_gl2 hlc, h1, h2, am_av hfc, e1, c_byRule h hfc h12 hP hi ha, c_rowWith h hf12, false_or, false_and]
      generalize (if σ o (f i) = rlS (σ o) al f g (σ lc 0) i then σ r (f i) + 1 else 1) = R
      by_cases h3 : σ lc 1 ≤ 0
      · have h4 : ¬ 0 < σ lc 1 := Int32.not_lt.mpr h3
        simp only [h3, h4, if_true, false_and, if_false]
      · have h4 : 0 < σ lc 1 := Int32.not_le.mp h3
        by_cases h5 : R < σ lc 1
        · have h6 : ¬ σ lc 1 ≤ R := Int32.not_le.mpr h5
          simp only [h3, h4, h5, h6, if_true, if_false, true_and]
        · have h6 : σ lc 1 ≤ R := Int32.not_lt.mp h5
          simp only [h3, h4, h5, h6, if_true, if_false, true_and, e10]
