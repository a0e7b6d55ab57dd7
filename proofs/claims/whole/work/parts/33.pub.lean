/-! OtherName: ways, sure, laws, may, couples, lawTold, count, image, restore -/
def s_wy (T : tS) (c : Nat) : Bool := wyB (s_n T) (s_kd T) (s_tl T) (s_wr T) (s_al T) (s_gp T) (s_mn T) (s_f T) (s_g T) (s_lw T) c
def s_T (T : tS) : Nat := prF (bsS (s_gp T) (s_mn T) (s_n T)) (cnt (s_gp T) (s_n T))
def s_ways (T : tS) : Nat := cnt (s_wy T) (s_T T)
def s_sure (T : tS) (j : Nat) : Int32 := crF (s_wy T) (fun c => encS (s_al T) (fcS (s_gp T) (s_mn T) (s_f T) (s_n T) c) j) (s_T T)
theorem WF.pos {T : tS} (hW : WF T) : ∀ i, i < s_n T → s_gp T i = true → 0 < cnt (s_mn T) i := by
  intro i hi hg
  obtain ⟨-, -, h3, h4, -⟩ := hW.2.1 i hi
  obtain ⟨h5, -, h6, -⟩ := h3 (h4 hg)
  have := cnt_lt (P := s_mn T) h5 (decide_eq_true h6)
  omega
theorem c_gs {d : Nat} {σ : am_St} {τ : Int64} {T : tS} (hR : RC σ T) (hW : WF T) : ∃ σ' : am_St, am_call (d + 4) 20 [.ref 25, .ref 3] σ τ = some (none, σ', τ) ∧ (∀ a, a ≠ 19 → a ≠ 20 → (a < 25 ∨ 30 < a) → σ' a = σ a) ∧ σ' 25 0 = nI (s_ways T) ∧ ∀ j, j < s_n T → σ' 26 j = s_sure T j := by
  exact c_gsearch (d := d) (σ := σ) (τ := τ) (kd := s_kd T) (tl := s_tl T) (wr := s_wr T) (al := s_al T) (gp := s_gp T) (mn := s_mn T) (f := s_f T) (g := s_g T) (lw := s_lw T) hW.1 rfl hW.2.2.1 hW.pos (fun i hi => (hW.2.1 i hi).2.2.2.1) (fun i hi ha => ⟨((hW.2.1 i hi).2.2.1 ha).1, ((hW.2.1 i hi).2.2.1 ha).2.1⟩) hR.1 (fun i hi => ⟨(hR.2.1 i hi).2.2.1, (hR.2.1 i hi).2.2.2.1⟩) (fun i hi => ⟨(hR.2.1 i hi).1, (hR.2.1 i hi).2.2.2.2.2.2.1⟩) (fun i hi => (hR.2.1 i hi).2.2.2.2.2.2.2.1) hR.2.2.1 (fun i hi => by
    obtain ⟨-, q6, -, -, q9, -⟩ := hR.2.1 i hi
    rw [q6, q9]
    refine ⟨?_, ?_⟩
    · cases s_gp T i <;> simp
    · unfold s_mn; simp)
theorem c_ways {d : Nat} {σ : am_St} {τ : Int64} {T : tS} (hR : RC σ T) (hW : WF T) : ∃ σ' : am_St, am_call (d + 5) 64 [.ref 0] σ τ = some (some (.int (nI (s_ways T))), σ', τ) ∧ RC σ' T ∧ ∀ c, 42 ≤ c → σ' c = σ c := by
  obtain ⟨σ', g1, g2, g3, g4⟩ := c_gs (d := d) (τ := τ) hR hW
  refine ⟨σ', ?_, hR.keep (fun c hc => g2 c (by omega) (by omega) (by omega)), fun c hc => g2 c (by omega) (by omega) (by omega)⟩
  show am_run (d + 5) 64 0 [.ref 0] [] σ τ = _
  simp (disch := first | assumption | omega | rfl | exact Nat.le_of_ble_eq_true rfl | decide) only [r64_0, r64_1, r64_4, r64_5, r64_8, r64_11, r64_12, r64_15, r64_18, am_gf_25_0, am_gf_0_1, am_gf_0_5, am_nl_i, am_nl_r, am_nl_n, am_nl_l, Option.bind_some, Option.toList_some, Option.toList_none, List.cons_append, List.nil_append, if_true, if_false, Bool.false_eq_true, Int.reduceEq, Int.reduceAdd, ↓reduceIte, g1, g3]
def sp_sure (T : tS) (p : Int32) : Int32 := match idx (s_n T) p with
  | none => -101
  | some j => s_sure T j
theorem c_sure {d : Nat} {σ : am_St} {τ : Int64} {T : tS} {p : Int32} (hR : RC σ T) (hW : WF T) : ∃ σ' : am_St, am_call (d + 5) 65 [.ref 0, .int p] σ τ = some (some (.int (sp_sure T p)), σ', τ) ∧ RC σ' T ∧ ∀ c, 42 ≤ c → σ' c = σ c := by
  unfold sp_sure
  have hn := hR.1
  have h12 := hW.1
  cases hp : idx (s_n T) p with
  | none =>
    refine ⟨σ, ?_, hR, fun _ _ => rfl⟩
    show am_run (d + 5) 65 0 [.ref 0, .int p] [] σ τ = _
    simp (disch := first | assumption | omega | rfl | exact Nat.le_of_ble_eq_true rfl | decide) only [r65_0, r65_1, r65_4, r65_5, r65_8, r65_11, r65_13, r65_14, r65_15, r65_18, r65_19, r65_22, r65_25, r65_26, r65_29, r65_32, r65_33, r65_34, am_gf_25_1, am_gf_0_1, am_gf_0_2, am_gf_0_5, am_ai_26, am_nl_i, am_nl_r, am_nl_n, am_nl_l, Option.bind_some, Option.toList_some, Option.toList_none, List.cons_append, List.nil_append, if_true, if_false, Bool.false_eq_true, Int.reduceEq, Int.reduceAdd, ↓reduceIte, c_has_n hn hp]
  | some j =>
    obtain ⟨hj, rfl⟩ := idx_some h12 hp
    have hj12 : j < 12 := by omega
    obtain ⟨σ', g1, g2, g3, g4⟩ := c_gs (d := d) (τ := τ) hR hW
    refine ⟨σ', ?_, hR.keep (fun c hc => g2 c (by omega) (by omega) (by omega)), fun c hc => g2 c (by omega) (by omega) (by omega)⟩
    show am_run (d + 5) 65 0 [.ref 0, .int (nI j)] [] σ τ = _
    simp (disch := first | assumption | omega | rfl | exact Nat.le_of_ble_eq_true rfl | decide) only [r65_0, r65_1, r65_4, r65_5, r65_8, r65_11, r65_13, r65_14, r65_15, r65_18, r65_19, r65_22, r65_25, r65_26, r65_29, r65_32, r65_33, r65_34, am_gf_25_1, am_gf_0_1, am_gf_0_2, am_gf_0_5, am_ai_26, am_nl_i, am_nl_r, am_nl_n, am_nl_l, Option.bind_some, Option.toList_some, Option.toList_none, List.cons_append, List.nil_append, if_true, if_false, Bool.false_eq_true, Int.reduceEq, Int.reduceAdd, ↓reduceIte, c_has_s hn hp, e10, g1, g4 j hj]
def s_ft (T : tS) : Nat × Nat := ftF (fitB (s_n T) (s_kd T) (s_tl T) (s_wr T) (s_al T) (s_f T) (s_g T) (s_lw T 3)) 68
def lwsS (T : tS) (x : Int32) : Int32 := tlsS (s_ft T).1 (lwT (s_ft T).2) x
theorem c_ls {d : Nat} {σ : am_St} {τ : Int64} {T : tS} (hR : RC σ T) (hW : WF T) : ∃ σ' : am_St, am_call (d + 4) 26 [.ref 31, .int (s_lw T 3)] σ τ = some (none, σ', τ) ∧ (∀ a, a ≠ 19 → a ≠ 20 → a ≠ 31 → a ≠ 32 → a ≠ 33 → σ' a = σ a) ∧ ∀ d x, am_call d 27 [.ref 31, .int x] σ' τ = some (some (.int (lwsS T x)), σ', τ) := by
  obtain ⟨σ', g1, g2, g3, g4⟩ := c_lsearch (d := d) (σ := σ) (τ := τ) (kd := s_kd T) (tl := s_tl T) (wr := s_wr T) (al := s_al T) (f := s_f T) (g := s_g T) (tw := s_lw T 3) hW.1 hR.1 (hR.ph hW) (fun i hi => ⟨(hR.2.1 i hi).1, (hR.2.1 i hi).2.2.2.2.2.2.1⟩) (fun i hi => (hR.2.1 i hi).2.2.2.2.2.2.2.1)
  have g3 : σ' 31 0 = nI (s_ft T).1 := g3
  have g4 : (s_ft T).1 ≠ 0 → ∀ j, j < 3 → σ' 32 j = lwT (s_ft T).2 j := g4
  refine ⟨σ', g1, g2, fun d x => ?_⟩
  have hle : (s_ft T).1 ≤ 68 := ftF_le (fitB (s_n T) (s_kd T) (s_tl T) (s_wr T) (s_al T) (s_f T) (s_g T) (s_lw T 3)) 68
  rw [c_tells g3 (by omega)]
  unfold lwsS tlsS
  by_cases h0 : (s_ft T).1 = 0
  · rw [if_pos h0, if_pos h0]
  · rw [if_neg h0, if_neg h0, g4 h0 0 (by decide), g4 h0 1 (by decide), g4 h0 2 (by decide)]
def sp_laws (T : tS) (x : Int32) : Int32 := if x < 0 ∨ 3 < x then -102 else lwsS T x
theorem c_laws {d : Nat} {σ : am_St} {τ : Int64} {T : tS} {x : Int32} (hR : RC σ T) (hW : WF T) : ∃ σ' : am_St, am_call (d + 5) 66 [.ref 0, .int x] σ τ = some (some (.int (sp_laws T x)), σ', τ) ∧ RC σ' T ∧ ∀ c, 42 ≤ c → σ' c = σ c := by
  unfold sp_laws
  by_cases hx : x < 0 ∨ 3 < x
  · rw [if_pos hx]
    refine ⟨σ, ?_, hR, fun _ _ => rfl⟩
    show am_run (d + 5) 66 0 [.ref 0, .int x] [] σ τ = _
    by_cases h1 : x < 0
    · simp (disch := first | assumption | omega | rfl | exact Nat.le_of_ble_eq_true rfl | decide) only [r66_0, r66_1, r66_4, r66_5, r66_6, r66_9, r66_11, r66_12, r66_13, r66_16, r66_17, r66_20, r66_23, r66_26, r66_27, r66_30, r66_31, r66_34, am_gf_3_3, am_gf_32_3, am_gf_33_3, am_gf_0_1, am_gf_0_6, am_nl_i, am_nl_r, am_nl_n, am_nl_l, Option.bind_some, Option.toList_some, Option.toList_none, List.cons_append, List.nil_append, if_true, if_false, Bool.false_eq_true, Int.reduceEq, Int.reduceAdd, ↓reduceIte, h1]
    · have h2 : ¬ x ≤ 3 := Int32.not_le.mpr (hx.resolve_left h1)
      simp (disch := first | assumption | omega | rfl | exact Nat.le_of_ble_eq_true rfl | decide) only [r66_0, r66_1, r66_4, r66_5, r66_6, r66_9, r66_11, r66_12, r66_13, r66_16, r66_17, r66_20, r66_23, r66_26, r66_27, r66_30, r66_31, r66_34, am_gf_3_3, am_gf_32_3, am_gf_33_3, am_gf_0_1, am_gf_0_6, am_nl_i, am_nl_r, am_nl_n, am_nl_l, Option.bind_some, Option.toList_some, Option.toList_none, List.cons_append, List.nil_append, if_true, if_false, Bool.false_eq_true, Int.reduceEq, Int.reduceAdd, ↓reduceIte, h1, h2]
  · rw [if_neg hx]
    have h1 : ¬ x < 0 := fun q => hx (Or.inl q)
    have h2 : x ≤ 3 := Int32.not_lt.mp (fun q => hx (Or.inr q))
    obtain ⟨σ', g1, g2, g3⟩ := c_ls (d := d) (τ := τ) hR hW
    refine ⟨σ', ?_, hR.keep (fun c hc => g2 c (by omega) (by omega) (by omega) (by omega) (by omega)), fun c hc => g2 c (by omega) (by omega) (by omega) (by omega) (by omega)⟩
    show am_run (d + 5) 66 0 [.ref 0, .int x] [] σ τ = _
    simp (disch := first | assumption | omega | rfl | exact Nat.le_of_ble_eq_true rfl | decide) only [r66_0, r66_1, r66_4, r66_5, r66_6, r66_9, r66_11, r66_12, r66_13, r66_16, r66_17, r66_20, r66_23, r66_26, r66_27, r66_30, r66_31, r66_34, am_gf_3_3, am_gf_32_3, am_gf_33_3, am_gf_0_1, am_gf_0_6, am_nl_i, am_nl_r, am_nl_n, am_nl_l, Option.bind_some, Option.toList_some, Option.toList_none, List.cons_append, List.nil_append, if_true, if_false, Bool.false_eq_true, Int.reduceEq, Int.reduceAdd, ↓reduceIte, h1, h2, hR.2.2.1 3 (by decide), g1, g3]
/-- two may wed -/
def s_my (T : tS) (a b : Nat) : Bool := mayB (s_sx T) (s_lv T) (s_nm T) (s_ds T) a b
theorem my_eq {σ : am_St} {T : tS} {i j : Nat} (hR : RC σ T) (hW : WF T) (hi : i < s_n T) (hj : j < s_n T) : mayB (σ 6) (σ 13) (σ 16) (dsS (σ 14) (s_n T)) i j = s_my T i j := by
  obtain ⟨-, a6, -, -, -, -, -, -, a13, a16, -⟩ := hR.2.1 i hi
  obtain ⟨-, b6, -, -, -, -, -, -, b13, b16, -⟩ := hR.2.1 j hj
  unfold s_my mayB
  have : dsS (σ 14) (s_n T) i j = s_ds T i j := ds_eq hR hW hi hj
  rw [a6, b6, a13, b13, a16, b16, this]
def sp_may (T : tS) (a b : Int32) : Int32 := match idx (s_n T) a, idx (s_n T) b with
  | some i, some j => if s_my T i j = true then 1 else 0
  | _, _ => -101
theorem c_may {d : Nat} {σ : am_St} {τ : Int64} {T : tS} {a b : Int32} (hR : RC σ T) (hW : WF T) : am_call (d + 3) 69 [.ref 0, .int a, .int b] σ τ = some (some (.int (sp_may T a b)), σ, τ) := by
  show am_run (d + 3) 69 0 [.ref 0, .int a, .int b] [] σ τ = _
  unfold sp_may
  have hn := hR.1
  have h12 := hW.1
  cases ha : idx (s_n T) a with
  | none => simp (disch := first | assumption | omega | rfl | exact Nat.le_of_ble_eq_true rfl | decide) only [r69_0, r69_1, r69_4, r69_5, r69_8, r69_11, r69_12, r69_15, r69_16, r69_19, r69_22, r69_24, r69_25, r69_26, r69_29, r69_30, r69_31, r69_34, r69_37, r69_38, r69_41, r69_42, am_gf_0_2, am_gf_0_7, am_nl_i, am_nl_r, am_nl_n, am_nl_l, Option.bind_some, Option.toList_some, Option.toList_none, List.cons_append, List.nil_append, if_true, if_false, Bool.false_eq_true, Int.reduceEq, Int.reduceAdd, ↓reduceIte, c_has_n hn ha]
  | some i =>
    cases hb : idx (s_n T) b with
    | none => simp (disch := first | assumption | omega | rfl | exact Nat.le_of_ble_eq_true rfl | decide) only [r69_0, r69_1, r69_4, r69_5, r69_8, r69_11, r69_12, r69_15, r69_16, r69_19, r69_22, r69_24, r69_25, r69_26, r69_29, r69_30, r69_31, r69_34, r69_37, r69_38, r69_41, r69_42, am_gf_0_2, am_gf_0_7, am_nl_i, am_nl_r, am_nl_n, am_nl_l, Option.bind_some, Option.toList_some, Option.toList_none, List.cons_append, List.nil_append, if_true, if_false, Bool.false_eq_true, Int.reduceEq, Int.reduceAdd, ↓reduceIte, c_has_s hn ha, c_has_n hn hb, e10]
    | some j =>
      obtain ⟨hi, rfl⟩ := idx_some h12 ha
      obtain ⟨hj, rfl⟩ := idx_some h12 hb
      have hd : am_call (d + 2) 0 [.ref 34, .int (nI i), .int (nI j)] σ τ = some (some (.int (if s_my T i j = true then 1 else 0)), σ, τ) := by
        rw [c_allowed hn h12 (by omega) (by omega), my_eq hR hW hi hj]
      cases hm : s_my T i j with
      | true =>
        rw [hm] at hd
        simp (disch := first | assumption | omega | rfl | exact Nat.le_of_ble_eq_true rfl | decide) only [r69_0, r69_1, r69_4, r69_5, r69_8, r69_11, r69_12, r69_15, r69_16, r69_19, r69_22, r69_24, r69_25, r69_26, r69_29, r69_30, r69_31, r69_34, r69_37, r69_38, r69_41, r69_42, am_gf_0_2, am_gf_0_7, am_nl_i, am_nl_r, am_nl_n, am_nl_l, Option.bind_some, Option.toList_some, Option.toList_none, List.cons_append, List.nil_append, if_true, if_false, Bool.false_eq_true, Int.reduceEq, Int.reduceAdd, ↓reduceIte, c_has_s hn ha, c_has_s hn hb, e10, hd, hm]
      | false =>
        rw [hm] at hd
        simp (disch := first | assumption | omega | rfl | exact Nat.le_of_ble_eq_true rfl | decide) only [r69_0, r69_1, r69_4, r69_5, r69_8, r69_11, r69_12, r69_15, r69_16, r69_19, r69_22, r69_24, r69_25, r69_26, r69_29, r69_30, r69_31, r69_34, r69_37, r69_38, r69_41, r69_42, am_gf_0_2, am_gf_0_7, am_nl_i, am_nl_r, am_nl_n, am_nl_l, Option.bind_some, Option.toList_some, Option.toList_none, List.cons_append, List.nil_append, if_true, if_false, Bool.false_eq_true, Int.reduceEq, Int.reduceAdd, ↓reduceIte, c_has_s hn ha, c_has_s hn hb, e10, hd, hm]
/-- who may wed whom; the couples -/
def s_ad (T : tS) (a b : Nat) : Bool := decide (b < s_n T) && (decide (s_sx T a = 0) && s_my T a b)
def s_mt (T : tS) (j : Nat) : Int32 := (wdF (s_n T) (s_ad T) (s_n T)).2 j
def s_mo (T : tS) : Nat := bsF (s_n T) (s_ad T) (s_n T) 0 (fun _ => false)
theorem ad_eq {σ : am_St} {T : tS} (hR : RC σ T) (hW : WF T) : ∀ i, i < s_n T → ∀ j, j < s_n T → adB (s_n T) (σ 6) (σ 13) (σ 16) (dsS (σ 14) (s_n T)) i j = s_ad T i j := by
  intro i hi j hj
  unfold adB s_ad
  rw [my_eq hR hW hi hj, (hR.2.1 i hi).2.1]
theorem wfS_congr {n m : Nat} {ad ad' : Nat → Nat → Bool} {U : Nat → Bool} (had : ∀ p, p < n → ∀ q, q < n → ad p q = ad' p q) (hm : m < n) : wfS n ad U m = wfS n ad' U m := by
  unfold wfS
  apply ff_congr
  intro j _ hj
  unfold wfB
  rw [had m hm j (by omega), bsF_congr had (n - (m + 1)) (m + 1) (upB U j) (upB U j) (by omega) (fun _ _ => rfl), bsF_congr had (n - m) m U U (by omega) (fun _ _ => rfl)]
theorem wdF_congr {n : Nat} {ad ad' : Nat → Nat → Bool} (had : ∀ p, p < n → ∀ q, q < n → ad p q = ad' p q) : ∀ m, m ≤ n → wdF n ad m = wdF n ad' m := by
  intro m
  induction m with
  | zero => intro _; rfl
  | succ m ih => intro hm; rw [wdF_s, wdF_s, ih (by omega), wfS_congr had (by omega)]
theorem c_wa {d : Nat} {σ : am_St} {τ : Int64} {T : tS} (hR : RC σ T) (hW : WF T) : ∃ σ' : am_St, am_call (d + 16) 1 [.ref 34] σ τ = some (none, σ', τ) ∧ (∀ c, (c < 34 ∨ 37 < c) → σ' c = σ c) ∧ σ' 34 0 = nI (s_mo T) ∧ ∀ j, j < 12 → σ' 35 j = s_mt T j := by
  obtain ⟨σ', g1, g2, g3, g4⟩ := c_wedAll (d := d) (σ := σ) (τ := τ) hW.1 hR.1
  have had := ad_eq hR hW
  refine ⟨σ', g1, g2, ?_, fun j hj => ?_⟩
  · rw [g3, bsF_congr had (s_n T) 0 _ (fun _ => false) (by omega) (fun _ _ => rfl)]
    rfl
  · rw [g4 j hj, wdF_congr had (s_n T) (Nat.le_refl _)]
    rfl
def sp_couples (T : tS) (x : Int32) : Int32 := if x = 0 then nI (s_mo T) else if 10 ≤ x ∧ x < 22 then s_mt T (x - 10).toNatClampNeg else -102
theorem c_couples {d : Nat} {σ : am_St} {τ : Int64} {T : tS} {x : Int32} (hR : RC σ T) (hW : WF T) : ∃ σ' : am_St, am_call (d + 17) 70 [.ref 0, .int x] σ τ = some (some (.int (sp_couples T x)), σ', τ) ∧ RC σ' T ∧ ∀ c, 42 ≤ c → σ' c = σ c := by
  obtain ⟨σ', g1, g2, g3, g4⟩ := c_wa (d := d) (τ := τ) hR hW
  have hk : RC σ' T := hR.keep (fun c hc => g2 c (by omega))
  unfold sp_couples
  by_cases h0 : x = 0
  · subst h0
    refine ⟨σ', ?_, hk, fun c hc => g2 c (by omega)⟩
    show am_run (d + 17) 70 0 [.ref 0, .int 0, .null] [] σ τ = _
    have h1 : (0 : Int32) < 10 := by decide
    simp (disch := first | assumption | omega | rfl | exact Nat.le_of_ble_eq_true rfl | decide) only [r70_0, r70_1, r70_3, r70_6, r70_7, r70_9, r70_12, r70_13, r70_16, r70_17, r70_18, r70_19, r70_22, r70_23, r70_26, r70_28, r70_29, r70_30, r70_33, r70_36, r70_37, r70_40, r70_41, r70_44, r70_47, r70_50, r70_51, r70_54, r70_57, r70_58, r70_60, r70_61, r70_62, am_gf_34_0, am_gf_34_1, am_gf_0_7, am_ai_35, am_nl_i, am_nl_r, am_nl_n, am_nl_l, Option.bind_some, Option.toList_some, Option.toList_none, List.cons_append, List.nil_append, if_true, if_false, Bool.false_eq_true, Int.reduceEq, Int.reduceAdd, ↓reduceIte, h1, g1, g3]
  · rw [if_neg h0]
    by_cases hx : 10 ≤ x ∧ x < 22
    · rw [if_pos hx]
      obtain ⟨k, hk2, hk1⟩ : ∃ k : Nat, k < 12 ∧ x = nI (k + 10) := by
        obtain ⟨j, hj, rfl⟩ := nI_of (x := x) (fun q => by
          have h1 := Int32.le_iff_toInt_le.mp hx.1
          have h2 := Int32.lt_iff_toInt_lt.mp q
          have e1 : (10 : Int32).toInt = 10 := by decide
          have e2 : (0 : Int32).toInt = 0 := by decide
          rw [e1] at h1; rw [e2] at h2; omega)
        have h1 : 10 ≤ j := (nI_leI (a := 10) (by omega) (by omega)).mp hx.1
        have h2 : j < 22 := (nI_ltI (b := 22) (by omega) (by omega)).mp hx.2
        exact ⟨j - 10, by omega, by rw [show j - 10 + 10 = j by omega]⟩
      subst hk1
      have es : nI (k + 10) - 10 = nI k := by
        show nI (k + 10) - nI 10 = nI k
        rw [pk_sub (by omega)]; rfl
      refine ⟨σ', ?_, hk, fun c hc => g2 c (by omega)⟩
      show am_run (d + 17) 70 0 [.ref 0, .int (nI (k + 10)), .null] [] σ τ = _
      have h1 : ¬ nI (k + 10) < 10 := Int32.not_lt.mpr hx.1
      have h2 : ¬ 22 ≤ nI (k + 10) := Int32.not_le.mpr hx.2
      have h12 := hW.1
      simp (disch := first | assumption | omega | rfl | exact Nat.le_of_ble_eq_true rfl | decide) only [r70_0, r70_1, r70_3, r70_6, r70_7, r70_9, r70_12, r70_13, r70_16, r70_17, r70_18, r70_19, r70_22, r70_23, r70_26, r70_28, r70_29, r70_30, r70_33, r70_36, r70_37, r70_40, r70_41, r70_44, r70_47, r70_50, r70_51, r70_54, r70_57, r70_58, r70_60, r70_61, r70_62, am_gf_34_0, am_gf_34_1, am_gf_0_7, am_ai_35, am_nl_i, am_nl_r, am_nl_n, am_nl_l, Option.bind_some, Option.toList_some, Option.toList_none, List.cons_append, List.nil_append, if_true, if_false, Bool.false_eq_true, Int.reduceEq, Int.reduceAdd, ↓reduceIte, h0, h1, h2, e10, g1, es, g4 k hk2, nI_clamp]
    · rw [if_neg hx]
      refine ⟨σ, ?_, hR, fun _ _ => rfl⟩
      show am_run (d + 17) 70 0 [.ref 0, .int x, .null] [] σ τ = _
      by_cases h1 : x < 10
      · simp (disch := first | assumption | omega | rfl | exact Nat.le_of_ble_eq_true rfl | decide) only [r70_0, r70_1, r70_3, r70_6, r70_7, r70_9, r70_12, r70_13, r70_16, r70_17, r70_18, r70_19, r70_22, r70_23, r70_26, r70_28, r70_29, r70_30, r70_33, r70_36, r70_37, r70_40, r70_41, r70_44, r70_47, r70_50, r70_51, r70_54, r70_57, r70_58, r70_60, r70_61, r70_62, am_gf_34_0, am_gf_34_1, am_gf_0_7, am_ai_35, am_nl_i, am_nl_r, am_nl_n, am_nl_l, Option.bind_some, Option.toList_some, Option.toList_none, List.cons_append, List.nil_append, if_true, if_false, Bool.false_eq_true, Int.reduceEq, Int.reduceAdd, ↓reduceIte, h0, h1]
      · have h2 : 22 ≤ x := Int32.not_lt.mp (fun q => hx ⟨Int32.not_lt.mp h1, q⟩)
        simp (disch := first | assumption | omega | rfl | exact Nat.le_of_ble_eq_true rfl | decide) only [r70_0, r70_1, r70_3, r70_6, r70_7, r70_9, r70_12, r70_13, r70_16, r70_17, r70_18, r70_19, r70_22, r70_23, r70_26, r70_28, r70_29, r70_30, r70_33, r70_36, r70_37, r70_40, r70_41, r70_44, r70_47, r70_50, r70_51, r70_54, r70_57, r70_58, r70_60, r70_61, r70_62, am_gf_34_0, am_gf_34_1, am_gf_0_7, am_ai_35, am_nl_i, am_nl_r, am_nl_n, am_nl_l, Option.bind_some, Option.toList_some, Option.toList_none, List.cons_append, List.nil_append, if_true, if_false, Bool.false_eq_true, Int.reduceEq, Int.reduceAdd, ↓reduceIte, h0, h1, h2]
def sp_lawTold (T : tS) (x : Int32) : Int32 := if x = 0 then s_lw T 0 else if x = 1 then s_lw T 1 else if x = 2 then s_lw T 2 else if x = 3 then s_lw T 3 else -102
theorem c_lawTold {d : Nat} {σ : am_St} {τ : Int64} {T : tS} {x : Int32} (hR : RC σ T) : am_call d 55 [.ref 0, .int x] σ τ = some (some (.int (sp_lawTold T x)), σ, τ) := by
  show am_run d 55 0 [.ref 0, .int x] [] σ τ = _
  have hl := hR.2.2.1
  unfold sp_lawTold
  by_cases h0 : x = 0
  · subst h0
    have t0 : (0 : Int32).toInt = 0 := by decide
    simp (disch := first | assumption | omega | rfl | exact Nat.le_of_ble_eq_true rfl | decide) only [r55_0, r55_1, r55_32, r55_33, r55_36, r55_39, r55_40, r55_41, r55_44, r55_47, r55_48, r55_49, r55_52, r55_55, r55_56, r55_57, r55_60, r55_63, r55_64, r55_66, am_gf_3_0, am_gf_32_0, am_gf_33_0, am_gf_3_1, am_gf_32_1, am_gf_33_1, am_gf_3_2, am_gf_32_2, am_gf_33_2, am_gf_3_3, am_gf_32_3, am_gf_33_3, am_gf_0_1, am_nl_i, am_nl_r, am_nl_n, am_nl_l, Option.bind_some, Option.toList_some, Option.toList_none, List.cons_append, List.nil_append, if_true, if_false, Bool.false_eq_true, Int.reduceEq, Int.reduceAdd, ↓reduceIte, am_sw, t0, hl 0 (by decide)]
  · by_cases h1 : x = 1
    · subst h1
      have t1 : (1 : Int32).toInt = 1 := by decide
      simp (disch := first | assumption | omega | rfl | exact Nat.le_of_ble_eq_true rfl | decide) only [r55_0, r55_1, r55_32, r55_33, r55_36, r55_39, r55_40, r55_41, r55_44, r55_47, r55_48, r55_49, r55_52, r55_55, r55_56, r55_57, r55_60, r55_63, r55_64, r55_66, am_gf_3_0, am_gf_32_0, am_gf_33_0, am_gf_3_1, am_gf_32_1, am_gf_33_1, am_gf_3_2, am_gf_32_2, am_gf_33_2, am_gf_3_3, am_gf_32_3, am_gf_33_3, am_gf_0_1, am_nl_i, am_nl_r, am_nl_n, am_nl_l, Option.bind_some, Option.toList_some, Option.toList_none, List.cons_append, List.nil_append, if_true, if_false, Bool.false_eq_true, Int.reduceEq, Int.reduceAdd, ↓reduceIte, am_sw, t1, hl 1 (by decide), h0]
    · by_cases h2 : x = 2
      · subst h2
        have t2 : (2 : Int32).toInt = 2 := by decide
        simp (disch := first | assumption | omega | rfl | exact Nat.le_of_ble_eq_true rfl | decide) only [r55_0, r55_1, r55_32, r55_33, r55_36, r55_39, r55_40, r55_41, r55_44, r55_47, r55_48, r55_49, r55_52, r55_55, r55_56, r55_57, r55_60, r55_63, r55_64, r55_66, am_gf_3_0, am_gf_32_0, am_gf_33_0, am_gf_3_1, am_gf_32_1, am_gf_33_1, am_gf_3_2, am_gf_32_2, am_gf_33_2, am_gf_3_3, am_gf_32_3, am_gf_33_3, am_gf_0_1, am_nl_i, am_nl_r, am_nl_n, am_nl_l, Option.bind_some, Option.toList_some, Option.toList_none, List.cons_append, List.nil_append, if_true, if_false, Bool.false_eq_true, Int.reduceEq, Int.reduceAdd, ↓reduceIte, am_sw, t2, hl 2 (by decide), h0, h1]
      · by_cases h3 : x = 3
        · subst h3
          have t3 : (3 : Int32).toInt = 3 := by decide
          simp (disch := first | assumption | omega | rfl | exact Nat.le_of_ble_eq_true rfl | decide) only [r55_0, r55_1, r55_32, r55_33, r55_36, r55_39, r55_40, r55_41, r55_44, r55_47, r55_48, r55_49, r55_52, r55_55, r55_56, r55_57, r55_60, r55_63, r55_64, r55_66, am_gf_3_0, am_gf_32_0, am_gf_33_0, am_gf_3_1, am_gf_32_1, am_gf_33_1, am_gf_3_2, am_gf_32_2, am_gf_33_2, am_gf_3_3, am_gf_32_3, am_gf_33_3, am_gf_0_1, am_nl_i, am_nl_r, am_nl_n, am_nl_l, Option.bind_some, Option.toList_some, Option.toList_none, List.cons_append, List.nil_append, if_true, if_false, Bool.false_eq_true, Int.reduceEq, Int.reduceAdd, ↓reduceIte, am_sw, t3, hl 3 (by decide), h0, h1, h2]
        · have t0 : ¬ x.toInt = 0 := lv_neT h0 rfl
          have t1 : ¬ x.toInt = 1 := lv_neT h1 rfl
          have t2 : ¬ x.toInt = 2 := lv_neT h2 rfl
          have t3 : ¬ x.toInt = 3 := lv_neT h3 rfl
          simp (disch := first | assumption | omega | rfl | exact Nat.le_of_ble_eq_true rfl | decide) only [r55_0, r55_1, r55_32, r55_33, r55_36, r55_39, r55_40, r55_41, r55_44, r55_47, r55_48, r55_49, r55_52, r55_55, r55_56, r55_57, r55_60, r55_63, r55_64, r55_66, am_gf_3_0, am_gf_32_0, am_gf_33_0, am_gf_3_1, am_gf_32_1, am_gf_33_1, am_gf_3_2, am_gf_32_2, am_gf_33_2, am_gf_3_3, am_gf_32_3, am_gf_33_3, am_gf_0_1, am_nl_i, am_nl_r, am_nl_n, am_nl_l, Option.bind_some, Option.toList_some, Option.toList_none, List.cons_append, List.nil_append, if_true, if_false, Bool.false_eq_true, Int.reduceEq, Int.reduceAdd, ↓reduceIte, am_sw, t0, t1, t2, t3, h0, h1, h2, h3]
