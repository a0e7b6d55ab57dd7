/-! OtherName$Mending -/
theorem isF_al {n i : Nat} {al : Nat → Bool} {f g : Nat → Nat} {F M : Nat → Int32} (hP : PH n al f g F M) (h12 : n ≤ 12) (hi : i < n) : isF (F i) (M i) = if al i = true then 1 else 0 := by
  cases ha : al i with
  | true =>
    obtain ⟨e1, e2⟩ := (hP i hi).1 ha
    rw [e1, e2]
    decide
  | false =>
    obtain ⟨e1, e2, h1, h2⟩ := (hP i hi).2 ha
    rw [e1, e2]
    unfold isF
    rw [if_neg (nI_pos (by omega)), if_pos (nI_pos' (by omega))]
    rfl
theorem cnt_sel {P : Nat → Bool} {k n : Nat} (h : k < cnt P n) : ∃ j, j < n ∧ P j = true ∧ cnt P j = k := by
  induction n with
  | zero => unfold cnt at h; omega
  | succ n ih =>
    rw [cnt_s] at h
    by_cases h1 : k < cnt P n
    · obtain ⟨j, a, b, c⟩ := ih h1
      exact ⟨j, by omega, b, c⟩
    · cases hp : P n with
      | true => rw [hp] at h; simp only [if_true] at h; exact ⟨n, by omega, hp, by omega⟩
      | false => rw [hp] at h; simp only [Bool.false_eq_true, if_false] at h; omega
theorem cnt_lt {P : Nat → Bool} {j n : Nat} (h : j < n) (hp : P j = true) : cnt P j < cnt P n := by
  have h1 : cnt P (j + 1) ≤ cnt P n := cnt_mono P h
  rw [cnt_s, hp] at h1
  simp only [if_true] at h1
  omega
/-- 6 to the k -/
def six : Nat → Nat
  | 0 => 1
  | k + 1 => six k * 6
theorem six_le {k : Nat} (h : k ≤ 4) : six k ≤ 1296 := by
  have : ∀ k, k ≤ 4 → six k ≤ 1296 := by decide
  exact this k h
theorem six_pos (k : Nat) : 0 < six k := by
  induction k with
  | zero => exact Nat.one_pos
  | succ k ih => unfold six; omega
theorem c_findFounders_loop {d n : Nat} {τ : Int64} {al : Nat → Bool} {f g : Nat → Nat} (h12 : n ≤ 12) (h4 : cnt al n ≤ 4) : ∀ k i (σ : am_St), i + k = n → σ 4 0 = nI n → PH n al f g (σ 7) (σ 8) → σ 21 1 = nI (cnt al i) → (∀ j, j < i → al j = true → σ 22 (cnt al j) = nI j) → ∃ σ' : am_St, am_run (d + 1) 32 9 [.ref 21, .int (nI (six (cnt al i))), .int (nI i)] [] σ τ = some (some (.int (nI (six (cnt al n)))), σ', τ) ∧ (∀ c, c ≠ 21 → c ≠ 22 → σ' c = σ c) ∧ (∀ j, j ≠ 1 → σ' 21 j = σ 21 j) ∧ σ' 21 1 = nI (cnt al n) ∧ ∀ j, j < n → al j = true → σ' 22 (cnt al j) = nI j := by
  intro k
  induction k with
  | zero =>
    intro i σ hi hn hP hq hat
    have e : i = n := by omega
    subst e
    refine ⟨σ, ?_, fun _ _ _ => rfl, fun _ _ => rfl, hq, hat⟩
    rw [r32_9]
    simp (disch := first | assumption | omega | rfl | exact Nat.le_of_ble_eq_true rfl | decide) only [r32_0, r32_1, r32_2, r32_5, r32_6, r32_7, r32_8, r32_10, r32_11, r32_14, r32_17, r32_20, r32_21, r32_24, r32_25, r32_28, r32_31, r32_32, r32_35, r32_36, r32_39, r32_40, r32_43, r32_44, r32_47, r32_48, r32_49, r32_50, r32_50i, r32_51, r32_54, r32_55, r32_56, r32_59, r32_60, r32_62, r32_63, r32_64, r32_67, r32_70, r32_71, am_gf_4_0, am_gf_21_1, am_gf_21_2, am_gf_21_5, am_pf_21_1, am_ai_22, am_nl_i, am_nl_r, am_nl_n, am_nl_l, Option.bind_some, Option.toList_some, Option.toList_none, List.cons_append, List.nil_append, if_true, if_false, Bool.false_eq_true, Int.reduceEq, Int.reduceAdd, ↓reduceIte, hn, ni_le, Nat.le_refl]
  | succ k ih =>
    intro i σ hi hn hP hq hat
    have hc : ¬ n ≤ i := by omega
    have hi12 : i < 12 := by omega
    have hF := isF_al hP h12 (show i < n by omega)
    cases ha : al i with
    | true =>
      rw [ha] at hF
      simp only [if_true] at hF
      have hlt := cnt_lt (show i < n by omega) ha
      have hl4 : cnt al i < 4 := by omega
      have hl4' : ¬ 4 ≤ cnt al i := by omega
      have e10 : ¬ (1 : Int32) = 0 := by decide
      have hs6 := six_le (show cnt al i ≤ 4 by omega)
      have es : cnt al (i + 1) = cnt al i + 1 := by rw [cnt_s, ha]; rfl
      obtain ⟨σ', g1, g2, g3, g4, g5⟩ := ih (i + 1) (am_up (am_up σ 22 (cnt al i) (nI i)) 21 1 (nI (cnt al i + 1))) (by omega) (by simp (disch := decide) only [am_up_ne]; exact hn) (by simp (disch := decide) only [am_up_ne]; exact hP) (by rw [am_up_eq, pk_us, es]) (fun j hj hal => by
        rw [am_up_ne (by decide), am_up_eq]
        by_cases hji : j = i
        · subst hji; rw [pk_us]
        · rw [pk_un (by have := cnt_lt (show j < i by omega) hal; omega)]
          exact hat j (by omega) hal)
      refine ⟨σ', ?_, fun c h1 h2 => by rw [g2 c h1 h2, am_up_ne h1, am_up_ne h2], fun j hj => by rw [g3 j hj, am_up_eq, pk_un hj, am_up_ne (by decide)], g4, g5⟩
      rw [← g1, r32_9]
      simp (disch := first | assumption | omega | rfl | exact Nat.le_of_ble_eq_true rfl | decide) only [r32_0, r32_1, r32_2, r32_5, r32_6, r32_7, r32_8, r32_10, r32_11, r32_14, r32_17, r32_20, r32_21, r32_24, r32_25, r32_28, r32_31, r32_32, r32_35, r32_36, r32_39, r32_40, r32_43, r32_44, r32_47, r32_48, r32_49, r32_50, r32_50i, r32_51, r32_54, r32_55, r32_56, r32_59, r32_60, r32_62, r32_63, r32_64, r32_67, r32_70, r32_71, am_gf_4_0, am_gf_21_1, am_gf_21_2, am_gf_21_5, am_pf_21_1, am_ai_22, am_nl_i, am_nl_r, am_nl_n, am_nl_l, Option.bind_some, Option.toList_some, Option.toList_none, List.cons_append, List.nil_append, if_true, if_false, Bool.false_eq_true, Int.reduceEq, Int.reduceAdd, ↓reduceIte, hn, ni_le, hc, c_isFounder hi12, hF, e10, hq, show (4 : Int32) = nI 4 from rfl, hl4', am_up_ne, nI_1, es, show (6 : Int32) = nI 6 from rfl, pk_mul, six]
    | false =>
      rw [ha] at hF
      simp only [Bool.false_eq_true, if_false] at hF
      have es : cnt al (i + 1) = cnt al i := by rw [cnt_s, ha]; rfl
      obtain ⟨σ', g1, g2, g3, g4, g5⟩ := ih (i + 1) σ (by omega) hn hP (by rw [es]; exact hq) (fun j hj hal => by
        by_cases hji : j = i
        · subst hji; rw [ha] at hal; cases hal
        · exact hat j (by omega) hal)
      refine ⟨σ', ?_, g2, g3, g4, g5⟩
      rw [← g1, r32_9]
      simp (disch := first | assumption | omega | rfl | exact Nat.le_of_ble_eq_true rfl | decide) only [r32_0, r32_1, r32_2, r32_5, r32_6, r32_7, r32_8, r32_10, r32_11, r32_14, r32_17, r32_20, r32_21, r32_24, r32_25, r32_28, r32_31, r32_32, r32_35, r32_36, r32_39, r32_40, r32_43, r32_44, r32_47, r32_48, r32_49, r32_50, r32_50i, r32_51, r32_54, r32_55, r32_56, r32_59, r32_60, r32_62, r32_63, r32_64, r32_67, r32_70, r32_71, am_gf_4_0, am_gf_21_1, am_gf_21_2, am_gf_21_5, am_pf_21_1, am_ai_22, am_nl_i, am_nl_r, am_nl_n, am_nl_l, Option.bind_some, Option.toList_some, Option.toList_none, List.cons_append, List.nil_append, if_true, if_false, Bool.false_eq_true, Int.reduceEq, Int.reduceAdd, ↓reduceIte, hn, ni_le, hc, c_isFounder hi12, hF, nI_1, es]
theorem c_findFounders {d n : Nat} {σ : am_St} {τ : Int64} {al : Nat → Bool} {f g : Nat → Nat} (h12 : n ≤ 12) (h4 : cnt al n ≤ 4) (hn : σ 4 0 = nI n) (hP : PH n al f g (σ 7) (σ 8)) : ∃ σ' : am_St, am_call (d + 1) 32 [.ref 21] σ τ = some (some (.int (nI (six (cnt al n)))), σ', τ) ∧ (∀ c, c ≠ 21 → c ≠ 22 → σ' c = σ c) ∧ σ' 21 1 = nI (cnt al n) ∧ ∀ j, j < n → al j = true → σ' 22 (cnt al j) = nI j := by
  obtain ⟨σ', g1, g2, g3, g4, g5⟩ := c_findFounders_loop (d := d) (τ := τ) h12 h4 n 0 (am_up σ 21 1 0) (by omega) (by rw [am_up_ne (by decide)]; exact hn) (by rw [am_up_ne (by decide), am_up_ne (by decide)]; exact hP) (by rw [am_up_eq, pk_us]; rfl) (fun j hj => by omega)
  refine ⟨σ', ?_, fun c h1 h2 => by rw [g2 c h1 h2, am_up_ne h1], g4, g5⟩
  show am_run (d + 1) 32 0 [.ref 21, .null, .null] [] σ τ = _
  simp (disch := first | assumption | omega | rfl | exact Nat.le_of_ble_eq_true rfl | decide) only [r32_0, r32_1, r32_2, r32_5, r32_6, r32_7, r32_8, r32_10, r32_11, r32_14, r32_17, r32_20, r32_21, r32_24, r32_25, r32_28, r32_31, r32_32, r32_35, r32_36, r32_39, r32_40, r32_43, r32_44, r32_47, r32_48, r32_49, r32_50, r32_50i, r32_51, r32_54, r32_55, r32_56, r32_59, r32_60, r32_62, r32_63, r32_64, r32_67, r32_70, r32_71, am_gf_4_0, am_gf_21_1, am_gf_21_2, am_gf_21_5, am_pf_21_1, am_ai_22, am_nl_i, am_nl_r, am_nl_n, am_nl_l, Option.bind_some, Option.toList_some, Option.toList_none, List.cons_append, List.nil_append, if_true, if_false, Bool.false_eq_true, Int.reduceEq, Int.reduceAdd, ↓reduceIte]
  exact g1
/-- the k-th of q digits of a code -/
def dgS (q c k : Nat) : Int32 := nI (c / six (q - 1 - k) % 6)
theorem ni_d6 {a : Nat} (h : a < 2147483648) : nI a / 6 = nI (a / 6) := pk_div h (by decide) (by decide)
theorem ni_r6 {a : Nat} (h : a < 2147483648) : nI a - nI (a / 6) * 6 = nI (a % 6) := by
  have := pk_rem (a := a) (d := 6) h (by decide) (by decide)
  rw [pk_div h (by decide) (by decide)] at this
  exact this
theorem ni_pm (x : Int32) : x + (-1) = x - 1 := (Int32.sub_eq_add_neg x 1).symm
theorem c_callFounders_loop {d n q c0 : Nat} {τ : Int64} {al : Nat → Bool} {v1 : Value} (h12 : n ≤ 12) (hv : am_nl v1 = v1) (hq : q = cnt al n) (h4 : q ≤ 4) (hc : c0 < 2147483648) : ∀ k (σ : am_St), k ≤ q → (∀ j, j < n → al j = true → σ 22 (cnt al j) = nI j) → ∃ σ' : am_St, am_run d 33 9 [.ref 21, v1, .int (nI (c0 / six (q - k))), .int (nI k - 1)] [] σ τ = some (none, σ', τ) ∧ (∀ c, c ≠ 24 → σ' c = σ c) ∧ ∀ j, j < n → al j = true → σ' 24 j = if cnt al j < k then dgS q c0 (cnt al j) else σ 24 j := by
  intro k
  induction k with
  | zero =>
    intro σ hk hat
    refine ⟨σ, ?_, fun _ _ => rfl, fun j _ _ => by rw [if_neg (by omega)]⟩
    rw [r33_9]
    have e : nI 0 - 1 < 0 := by decide
    simp (disch := first | assumption | omega | rfl | exact Nat.le_of_ble_eq_true rfl | decide) only [r33_0, r33_1, r33_2, r33_3, r33_6, r33_7, r33_8, r33_10, r33_13, r33_14, r33_17, r33_18, r33_21, r33_22, r33_23, r33_24, r33_26, r33_27, r33_28, r33_29, r33_31, r33_32, r33_33, r33_36, r33_39, am_gf_21_1, am_gf_21_2, am_gf_21_4, am_ai_22, am_ai_24, am_nl_i, am_nl_r, am_nl_n, am_nl_l, Option.bind_some, Option.toList_some, Option.toList_none, List.cons_append, List.nil_append, if_true, if_false, Bool.false_eq_true, Int.reduceEq, Int.reduceAdd, ↓reduceIte, e]
  | succ k ih =>
    intro σ hk hat
    obtain ⟨j0, hj0, ha0, hc0⟩ := cnt_sel (P := al) (k := k) (n := n) (by omega)
    have hat0 := hat j0 hj0 ha0
    rw [hc0] at hat0
    have hk4 : k < 4 := by omega
    have hj12 : j0 < 12 := by omega
    have hdiv : c0 / six (q - (k + 1)) < 2147483648 := Nat.lt_of_le_of_lt (Nat.div_le_self _ _) hc
    have e6 : ¬ (6 : Int32) = 0 := by decide
    have hz : ¬ nI k < 0 := nI_pos (by omega)
    have edv : c0 / six (q - (k + 1)) / 6 = c0 / six (q - k) := by
      rw [Nat.div_div_eq_div_mul, show q - k = (q - (k + 1)) + 1 by omega]
      rfl
    have er : nI (c0 / six (q - (k + 1))) - nI (c0 / six (q - k)) * 6 = nI (c0 / six (q - (k + 1)) % 6) := by rw [← edv]; exact ni_r6 hdiv
    obtain ⟨σ', g1, g2, g3⟩ := ih (am_up σ 24 j0 (nI (c0 / six (q - (k + 1)) % 6))) (by omega) (fun j hj ha => by rw [am_up_ne (by decide)]; exact hat j hj ha)
    refine ⟨σ', ?_, fun c h1 => by rw [g2 c h1, am_up_ne h1], fun j hj ha => ?_⟩
    · rw [← g1, r33_9, nI_pred]
      simp (disch := first | assumption | omega | rfl | exact Nat.le_of_ble_eq_true rfl | decide) only [r33_0, r33_1, r33_2, r33_3, r33_6, r33_7, r33_8, r33_10, r33_13, r33_14, r33_17, r33_18, r33_21, r33_22, r33_23, r33_24, r33_26, r33_27, r33_28, r33_29, r33_31, r33_32, r33_33, r33_36, r33_39, am_gf_21_1, am_gf_21_2, am_gf_21_4, am_ai_22, am_ai_24, am_nl_i, am_nl_r, am_nl_n, am_nl_l, Option.bind_some, Option.toList_some, Option.toList_none, List.cons_append, List.nil_append, if_true, if_false, Bool.false_eq_true, Int.reduceEq, Int.reduceAdd, ↓reduceIte, hz, hat0, e6, ni_d6, edv, er, hv, ni_pm]
    · rw [g3 j hj ha, am_up_eq]
      by_cases h1 : cnt al j < k
      · rw [if_pos h1, if_pos (by omega)]
      · rw [if_neg h1]
        by_cases h2 : cnt al j = k
        · have : j = j0 := by
            rcases Nat.lt_trichotomy j j0 with h | h | h
            · have := cnt_lt h ha; omega
            · exact h
            · have := cnt_lt h ha0; omega
          subst this
          rw [pk_us, if_pos (by omega), h2]
          unfold dgS
          rw [show q - 1 - k = q - (k + 1) by omega]
        · rw [pk_un (by intro e; subst e; omega), if_neg (by omega)]
theorem c_callFounders {d n q c0 : Nat} {σ : am_St} {τ : Int64} {al : Nat → Bool} (h12 : n ≤ 12) (hq : q = cnt al n) (h4 : q ≤ 4) (hc : c0 < 2147483648) (hqs : σ 21 1 = nI q) (hat : ∀ j, j < n → al j = true → σ 22 (cnt al j) = nI j) : ∃ σ' : am_St, am_call d 33 [.ref 21, .int (nI c0)] σ τ = some (none, σ', τ) ∧ (∀ c, c ≠ 24 → σ' c = σ c) ∧ ∀ j, j < n → al j = true → σ' 24 j = dgS q c0 (cnt al j) := by
  obtain ⟨σ', g1, g2, g3⟩ := c_callFounders_loop (d := d) (τ := τ) (v1 := .int (nI c0)) h12 rfl hq h4 hc q σ (Nat.le_refl q) hat
  refine ⟨σ', ?_, g2, fun j hj ha => by rw [g3 j hj ha, if_pos (by rw [hq]; exact cnt_lt hj ha)]⟩
  show am_run d 33 0 [.ref 21, .int (nI c0), .null, .null] [] σ τ = _
  rw [show q - q = 0 by omega, show c0 / six 0 = c0 from Nat.div_one c0] at g1
  simp (disch := first | assumption | omega | rfl | exact Nat.le_of_ble_eq_true rfl | decide) only [r33_0, r33_1, r33_2, r33_3, r33_6, r33_7, r33_8, r33_10, r33_13, r33_14, r33_17, r33_18, r33_21, r33_22, r33_23, r33_24, r33_26, r33_27, r33_28, r33_29, r33_31, r33_32, r33_33, r33_36, r33_39, am_gf_21_1, am_gf_21_2, am_gf_21_4, am_ai_22, am_ai_24, am_nl_i, am_nl_r, am_nl_n, am_nl_l, Option.bind_some, Option.toList_some, Option.toList_none, List.cons_append, List.nil_append, if_true, if_false, Bool.false_eq_true, Int.reduceEq, Int.reduceAdd, ↓reduceIte, hqs]
  exact g1
theorem i_rf (x : Int32) : (x ≤ x) = True := eq_true (Int32.le_refl x)
theorem c_keepBest_0 {d i : Nat} {σ : am_St} {τ : Int64} (hqs : σ 21 1 = nI i) : am_run d 34 2 [.ref 21, .int (nI i)] [] σ τ = some (none, σ, τ) := by
  rw [r34_2]
  simp (disch := first | assumption | omega | rfl | exact Nat.le_of_ble_eq_true rfl | decide) only [r34_0, r34_1, r34_3, r34_4, r34_7, r34_10, r34_11, r34_14, r34_15, r34_16, r34_19, r34_20, r34_23, r34_24, r34_25, r34_26, r34_27, r34_30, r34_33, am_gf_21_1, am_gf_21_2, am_gf_21_3, am_gf_21_4, am_ai_22, am_ai_23, am_ai_24, am_nl_i, am_nl_r, am_nl_n, am_nl_l, Option.bind_some, Option.toList_some, Option.toList_none, List.cons_append, List.nil_append, if_true, if_false, Bool.false_eq_true, Int.reduceEq, Int.reduceAdd, ↓reduceIte, hqs, i_rf]
theorem c_keepBest_loop {d n q : Nat} {τ : Int64} {al : Nat → Bool} {t : Nat → Int32} (h12 : n ≤ 12) (hq : q = cnt al n) (h4 : q ≤ 4) : ∀ k i (σ : am_St), i + k = q → σ 21 1 = nI q → (∀ j, j < n → al j = true → σ 22 (cnt al j) = nI j ∧ σ 24 j = t (cnt al j)) → (∀ j, j < i → σ 23 j = t j) → ∃ σ' : am_St, am_run d 34 2 [.ref 21, .int (nI i)] [] σ τ = some (none, σ', τ) ∧ (∀ c, c ≠ 23 → σ' c = σ c) ∧ ∀ j, j < q → σ' 23 j = t j := by
  intro k
  induction k with
  | zero =>
    intro i σ hi hqs hat hb
    have e : i = q := by omega
    subst e
    exact ⟨σ, c_keepBest_0 hqs, fun _ _ => rfl, hb⟩
  | succ k ih =>
    intro i σ hi hqs hat hb
    have hc : ¬ q ≤ i := by omega
    obtain ⟨j0, hj0, ha0, hc0⟩ := cnt_sel (P := al) (k := i) (n := n) (by omega)
    obtain ⟨h1, h2⟩ := hat j0 hj0 ha0
    rw [hc0] at h1 h2
    have hi4 : i < 4 := by omega
    have hj12 : j0 < 12 := by omega
    clear hc0
    obtain ⟨σ', g1, g2, g3⟩ := ih (i + 1) (am_up σ 23 i (t i)) (by omega) (by rw [am_up_ne (by decide)]; exact hqs) (fun j hj ha => by rw [am_up_ne (by decide), am_up_ne (by decide)]; exact hat j hj ha) (fun j hj => by
      rw [am_up_eq]
      by_cases h : j = i
      · subst h; rw [pk_us]
      · rw [pk_un h]; exact hb j (by omega))
    refine ⟨σ', ?_, fun c h1 => by rw [g2 c h1, am_up_ne h1], g3⟩
    rw [← g1, r34_2]
    simp (disch := first | assumption | omega | rfl | exact Nat.le_of_ble_eq_true rfl | decide) only [r34_0, r34_1, r34_3, r34_4, r34_7, r34_10, r34_11, r34_14, r34_15, r34_16, r34_19, r34_20, r34_23, r34_24, r34_25, r34_26, r34_27, r34_30, r34_33, am_gf_21_1, am_gf_21_2, am_gf_21_3, am_gf_21_4, am_ai_22, am_ai_23, am_ai_24, am_nl_i, am_nl_r, am_nl_n, am_nl_l, Option.bind_some, Option.toList_some, Option.toList_none, List.cons_append, List.nil_append, if_true, if_false, Bool.false_eq_true, Int.reduceEq, Int.reduceAdd, ↓reduceIte, hqs, ni_le, hc, h1, h2, nI_1]
theorem c_keepBest {d n q : Nat} {σ : am_St} {τ : Int64} {al : Nat → Bool} {t : Nat → Int32} (h12 : n ≤ 12) (hq : q = cnt al n) (h4 : q ≤ 4) (hqs : σ 21 1 = nI q) (hat : ∀ j, j < n → al j = true → σ 22 (cnt al j) = nI j ∧ σ 24 j = t (cnt al j)) : ∃ σ' : am_St, am_call d 34 [.ref 21] σ τ = some (none, σ', τ) ∧ (∀ c, c ≠ 23 → σ' c = σ c) ∧ ∀ j, j < q → σ' 23 j = t j := by
  obtain ⟨σ', g1, g2, g3⟩ := c_keepBest_loop (d := d) (τ := τ) h12 hq h4 q 0 σ (by omega) hqs hat (fun j hj => by omega)
  refine ⟨σ', ?_, g2, g3⟩
  show am_run d 34 0 [.ref 21, .null] [] σ τ = _
  simp (disch := first | assumption | omega | rfl | exact Nat.le_of_ble_eq_true rfl | decide) only [r34_0, r34_1, r34_3, r34_4, r34_7, r34_10, r34_11, r34_14, r34_15, r34_16, r34_19, r34_20, r34_23, r34_24, r34_25, r34_26, r34_27, r34_30, r34_33, am_gf_21_1, am_gf_21_2, am_gf_21_3, am_gf_21_4, am_ai_22, am_ai_23, am_ai_24, am_nl_i, am_nl_r, am_nl_n, am_nl_l, Option.bind_some, Option.toList_some, Option.toList_none, List.cons_append, List.nil_append, if_true, if_false, Bool.false_eq_true, Int.reduceEq, Int.reduceAdd, ↓reduceIte]
  exact g1
theorem c_nameOfFounder {d q : Nat} {σ : am_St} {τ : Int64} {x : Int32} (hqs : σ 21 1 = nI q) (h4 : q ≤ 4) : am_call d 31 [.ref 21, .int x] σ τ = some (some (.int (if x < 0 then -1 else if nI q ≤ x then -1 else σ 23 x.toNatClampNeg)), σ, τ) := by
  show am_run d 31 0 [.ref 21, .int x] [] σ τ = _
  by_cases h1 : x < 0
  · simp (disch := first | assumption | omega | rfl | exact Nat.le_of_ble_eq_true rfl | decide) only [r31_0, r31_1, r31_4, r31_5, r31_6, r31_9, r31_12, r31_13, r31_16, r31_17, r31_18, r31_21, r31_22, am_gf_21_1, am_gf_21_3, am_ai_23, am_nl_i, am_nl_r, am_nl_n, am_nl_l, Option.bind_some, Option.toList_some, Option.toList_none, List.cons_append, List.nil_append, if_true, if_false, Bool.false_eq_true, Int.reduceEq, Int.reduceAdd, ↓reduceIte, h1]
  · by_cases h2 : nI q ≤ x
    · simp (disch := first | assumption | omega | rfl | exact Nat.le_of_ble_eq_true rfl | decide) only [r31_0, r31_1, r31_4, r31_5, r31_6, r31_9, r31_12, r31_13, r31_16, r31_17, r31_18, r31_21, r31_22, am_gf_21_1, am_gf_21_3, am_ai_23, am_nl_i, am_nl_r, am_nl_n, am_nl_l, Option.bind_some, Option.toList_some, Option.toList_none, List.cons_append, List.nil_append, if_true, if_false, Bool.false_eq_true, Int.reduceEq, Int.reduceAdd, ↓reduceIte, h1, hqs, h2]
    · obtain ⟨j, hj, rfl⟩ := nI_of h1
      have hj2 : j < q := by
        rw [ni_le (by omega) (by omega)] at h2; omega
      have hj4 : j < 4 := by omega
      simp (disch := first | assumption | omega | rfl | exact Nat.le_of_ble_eq_true rfl | decide) only [r31_0, r31_1, r31_4, r31_5, r31_6, r31_9, r31_12, r31_13, r31_16, r31_17, r31_18, r31_21, r31_22, am_gf_21_1, am_gf_21_3, am_ai_23, am_nl_i, am_nl_r, am_nl_n, am_nl_l, Option.bind_some, Option.toList_some, Option.toList_none, List.cons_append, List.nil_append, if_true, if_false, Bool.false_eq_true, Int.reduceEq, Int.reduceAdd, ↓reduceIte, h1, hqs, h2, nI_clamp]
theorem nrA_congr {n : Nat} {kd tl tl' : Nat → Int32} {al : Nat → Bool} {f g : Nat → Nat} {lw : Nat → Int32} (h : ∀ i, i < n → al i = true → tl i = tl' i) : ∀ m, m ≤ n → nrA kd tl al f g lw m = nrA kd tl' al f g lw m := by
  intro m
  induction m with
  | zero => intro _; rfl
  | succ m ih =>
    intro hm
    rw [nrA_s, nrA_s, ih (by omega)]
    split
    · rename_i ha; rw [h m (by omega) ha]
    · rfl
theorem nmS_congr {n : Nat} {kd tl tl' : Nat → Int32} {al : Nat → Bool} {f g : Nat → Nat} {lw : Nat → Int32} (h : ∀ i, i < n → al i = true → tl i = tl' i) : nmS kd tl al f g lw n = nmS kd tl' al f g lw n := by
  unfold nmS
  rw [nrA_congr h n (Nat.le_refl n)]
theorem cnt_congr {P Q : Nat → Bool} {n : Nat} (h : ∀ j, j < n → P j = Q j) : cnt P n = cnt Q n := by
  induction n with
  | zero => rfl
  | succ n ih => rw [cnt_s, cnt_s, h n (by omega), ih (fun j hj => h j (by omega))]
/-- the fewest errors of the first m codes, and the first code that has them -/
def mdF (E : Nat → Nat) (b : Nat) : Nat → Nat × Nat
  | 0 => (b, 0)
  | c + 1 => if E c < (mdF E b c).1 then (E c, c) else mdF E b c
theorem mdF_s (E : Nat → Nat) (b c : Nat) : mdF E b (c + 1) = if E c < (mdF E b c).1 then (E c, c) else mdF E b c := rfl
theorem mdF_0 {E : Nat → Nat} {b c m : Nat} (h : (mdF E b c).1 = 0) (hm : c ≤ m) : mdF E b m = mdF E b c := by
  induction hm with
  | refl => rfl
  | step _ ih => rw [mdF_s, ih, h, if_neg (by omega)]
theorem mdF_le {E : Nat → Nat} {b : Nat} (hE : ∀ c, E c ≤ 12) (hb : b ≤ 1000) (m : Nat) : (mdF E b m).1 ≤ 1000 := by
  induction m with
  | zero => exact hb
  | succ m ih =>
    rw [mdF_s]
    split
    · have := hE m; show E m ≤ 1000; omega
    · exact ih
