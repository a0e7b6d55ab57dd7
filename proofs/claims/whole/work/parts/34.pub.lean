/-! Integer.bitCount; OtherName: lasts, image, restore, count, blank, fault, law -/
def bcF (x0 : Int32) : Int32 :=
  let ush : Int32 → Int32 → Int32 := fun x y => (x.toUInt32 >>> (y.toUInt32 &&& Int32.toUInt32 31)).toInt32
  let a := x0 - (ush x0 1 &&& 1431655765)
  let b := (a &&& 858993459) + (ush a 2 &&& 858993459)
  let c := (b + ush b 4) &&& 252645135
  let e := c + ush c 8
  let f := e + ush e 16
  f &&& 63
theorem c_bitCount {d : Nat} {σ : am_St} {τ : Int64} {x : Int32} : am_call d 142 [.int x] σ τ = some (some (.int (bcF x)), σ, τ) := by
  show am_run d 142 0 [.int x] [] σ τ = _
  simp (disch := first | assumption | omega | rfl | exact Nat.le_of_ble_eq_true rfl | decide) only [r142_0, r142_1, r142_2, r142_3, r142_4, r142_7, r142_8, r142_9, r142_10, r142_11, r142_14, r142_15, r142_16, r142_17, r142_18, r142_21, r142_22, r142_23, r142_24, r142_25, r142_26, r142_27, r142_28, r142_29, r142_32, r142_33, r142_34, r142_35, r142_36, r142_38, r142_39, r142_40, r142_41, r142_42, r142_43, r142_45, r142_46, r142_47, r142_48, r142_49, r142_51, r142_52, am_nl_i, am_nl_r, am_nl_n, am_nl_l, Option.bind_some, Option.toList_some, Option.toList_none, List.cons_append, List.nil_append, if_true, if_false, Bool.false_eq_true, Int.reduceEq, Int.reduceAdd, ↓reduceIte]
  rfl
/-- how many of the first k bits -/
def pcN (m : Nat) : Nat → Nat
  | 0 => 0
  | k + 1 => pcN m k + m / 2 ^ k % 2
theorem bc_pc : ∀ m, m < 4096 → bcF (nI m) = nI (pcN m 12) := by decide +kernel
theorem sh_pw : ∀ g, g < 12 → (1 : Int32) <<< (nI g &&& 31) = nI (2 ^ g) := by decide +kernel
theorem ni_or (a b : Nat) : nI a ||| nI b = nI (a ||| b) := by
  apply Int32.toBitVec_inj.1
  show BitVec.ofNat 32 a ||| BitVec.ofNat 32 b = BitVec.ofNat 32 (a ||| b)
  apply BitVec.eq_of_getLsbD_eq
  intro i hi
  simp [hi]
/-- the generations in which a name is, as bits -/
def seF (nm : Nat → Int32) (gn : Nat → Nat) (x : Int32) : Nat → Nat
  | 0 => 0
  | i + 1 => if nm i = x then seF nm gn x i ||| 2 ^ gn i else seF nm gn x i
theorem seF_s (nm : Nat → Int32) (gn : Nat → Nat) (x : Int32) (i : Nat) : seF nm gn x (i + 1) = if nm i = x then seF nm gn x i ||| 2 ^ gn i else seF nm gn x i := rfl
theorem seF_lt {nm : Nat → Int32} {gn : Nat → Nat} {x : Int32} {n : Nat} (hg : ∀ i, i < n → gn i < 12) : ∀ i, i ≤ n → seF nm gn x i < 4096 := by
  intro i
  induction i with
  | zero => intro _; show 0 < 4096; omega
  | succ i ih =>
    intro hi
    rw [seF_s]
    split
    · have h1 : seF nm gn x i < 2 ^ 12 := ih (by omega)
      have h2 : 2 ^ gn i < 2 ^ 12 := Nat.pow_lt_pow_right (by omega) (hg i (by omega))
      exact Nat.or_lt_two_pow h1 h2
    · exact ih (by omega)
def s_la (T : tS) (x : Int32) : Nat := pcN (seF (s_nm T) (s_gn T) x (s_n T)) 12
theorem gn_lt {T : tS} (hW : WF T) : ∀ i, i < s_n T → s_gn T i < 12 := by
  intro i hi
  have h12 := hW.1
  unfold s_gn
  have h1 : gnA (s_al T) (s_f T) (s_g T) (s_n T) i = gnA (s_al T) (s_f T) (s_g T) (i + 1) i := gnA_stable (by omega) (by omega)
  rw [h1, gnA_s]
  dsimp only
  rw [if_pos rfl]
  have h2 := gnA_le (s_al T) (s_f T) (s_g T) i (s_f T i)
  have h3 := gnA_le (s_al T) (s_f T) (s_g T) i (s_g T i)
  split
  · omega
  · split <;> omega
theorem c_gen_loop {d : Nat} {σ : am_St} {τ : Int64} {T : tS} {x : Int32} (hR : RC σ T) (hW : WF T) : ∀ k i, i + k = s_n T → am_run (d + 1) 78 4 [.ref 0, .int x, .int (nI (seF (s_nm T) (s_gn T) x i)), .int (nI i)] [] σ τ = some (some (.int (nI (s_la T x))), σ, τ) := by
  intro k
  have hn := hR.1
  have h12 := hW.1
  induction k with
  | zero =>
    intro i hi
    have e : i = s_n T := by omega
    subst e
    rw [r78_4]
    have hl := seF_lt (nm := s_nm T) (x := x) (gn_lt hW) (s_n T) (Nat.le_refl _)
    simp (disch := first | assumption | omega | rfl | exact Nat.le_of_ble_eq_true rfl | decide) only [r78_0, r78_1, r78_2, r78_3, r78_5, r78_6, r78_9, r78_12, r78_15, r78_16, r78_19, r78_22, r78_23, r78_24, r78_25, r78_28, r78_29, r78_30, r78_31, r78_34, r78_37, r78_38, r78_39, r78_40, r78_41, r78_42, r78_45, r78_48, r78_49, r78_52, am_gf_4_0, am_gf_4_6, am_gf_15_0, am_gf_18_0, am_gf_0_2, am_gf_0_3, am_ai_10, am_ai_16, am_ai_19, am_nl_i, am_nl_r, am_nl_n, am_nl_l, Option.bind_some, Option.toList_some, Option.toList_none, List.cons_append, List.nil_append, if_true, if_false, Bool.false_eq_true, Int.reduceEq, Int.reduceAdd, ↓reduceIte, hn, i_rf, c_bitCount, bc_pc _ hl]
    rfl
  | succ k ih =>
    intro i hi
    have hc : ¬ s_n T ≤ i := by omega
    have hi12 : i < 12 := by omega
    obtain ⟨-, -, -, -, -, q10, -, -, -, q16, -⟩ := hR.2.1 i (by omega)
    have hp := sh_pw (s_gn T i) (gn_lt hW i (by omega))
    rw [← ih (i + 1) (by omega), r78_4, seF_s]
    by_cases h : s_nm T i = x
    · simp (disch := first | assumption | omega | rfl | exact Nat.le_of_ble_eq_true rfl | decide) only [r78_0, r78_1, r78_2, r78_3, r78_5, r78_6, r78_9, r78_12, r78_15, r78_16, r78_19, r78_22, r78_23, r78_24, r78_25, r78_28, r78_29, r78_30, r78_31, r78_34, r78_37, r78_38, r78_39, r78_40, r78_41, r78_42, r78_45, r78_48, r78_49, r78_52, am_gf_4_0, am_gf_4_6, am_gf_15_0, am_gf_18_0, am_gf_0_2, am_gf_0_3, am_ai_10, am_ai_16, am_ai_19, am_nl_i, am_nl_r, am_nl_n, am_nl_l, Option.bind_some, Option.toList_some, Option.toList_none, List.cons_append, List.nil_append, if_true, if_false, Bool.false_eq_true, Int.reduceEq, Int.reduceAdd, ↓reduceIte, hn, ni_le, hc, q16, h, q10, hp, ni_or, nI_1]
    · simp (disch := first | assumption | omega | rfl | exact Nat.le_of_ble_eq_true rfl | decide) only [r78_0, r78_1, r78_2, r78_3, r78_5, r78_6, r78_9, r78_12, r78_15, r78_16, r78_19, r78_22, r78_23, r78_24, r78_25, r78_28, r78_29, r78_30, r78_31, r78_34, r78_37, r78_38, r78_39, r78_40, r78_41, r78_42, r78_45, r78_48, r78_49, r78_52, am_gf_4_0, am_gf_4_6, am_gf_15_0, am_gf_18_0, am_gf_0_2, am_gf_0_3, am_ai_10, am_ai_16, am_ai_19, am_nl_i, am_nl_r, am_nl_n, am_nl_l, Option.bind_some, Option.toList_some, Option.toList_none, List.cons_append, List.nil_append, if_true, if_false, Bool.false_eq_true, Int.reduceEq, Int.reduceAdd, ↓reduceIte, hn, ni_le, hc, q16, h, nI_1]
theorem c_generationsOf {d : Nat} {σ : am_St} {τ : Int64} {T : tS} {x : Int32} (hR : RC σ T) (hW : WF T) : am_call (d + 1) 78 [.ref 0, .int x] σ τ = some (some (.int (nI (s_la T x))), σ, τ) := by
  show am_run (d + 1) 78 0 [.ref 0, .int x, .null, .null] [] σ τ = _
  simp (disch := first | assumption | omega | rfl | exact Nat.le_of_ble_eq_true rfl | decide) only [r78_0, r78_1, r78_2, r78_3, r78_5, r78_6, r78_9, r78_12, r78_15, r78_16, r78_19, r78_22, r78_23, r78_24, r78_25, r78_28, r78_29, r78_30, r78_31, r78_34, r78_37, r78_38, r78_39, r78_40, r78_41, r78_42, r78_45, r78_48, r78_49, r78_52, am_gf_4_0, am_gf_4_6, am_gf_15_0, am_gf_18_0, am_gf_0_2, am_gf_0_3, am_ai_10, am_ai_16, am_ai_19, am_nl_i, am_nl_r, am_nl_n, am_nl_l, Option.bind_some, Option.toList_some, Option.toList_none, List.cons_append, List.nil_append, if_true, if_false, Bool.false_eq_true, Int.reduceEq, Int.reduceAdd, ↓reduceIte]
  exact c_gen_loop hR hW (s_n T) 0 (by omega)
def sp_lasts (T : tS) (x : Int32) : Int32 := if nmB x = 0 then -101 else nI (s_la T x)
theorem c_lasts {d : Nat} {σ : am_St} {τ : Int64} {T : tS} {x : Int32} (hR : RC σ T) (hW : WF T) : am_call (d + 2) 71 [.ref 0, .int x] σ τ = some (some (.int (sp_lasts T x)), σ, τ) := by
  show am_run (d + 2) 71 0 [.ref 0, .int x] [] σ τ = _
  unfold sp_lasts
  by_cases h : nmB x = 0
  · simp (disch := first | assumption | omega | rfl | exact Nat.le_of_ble_eq_true rfl | decide) only [r71_0, r71_1, r71_4, r71_7, r71_8, r71_9, r71_12, r71_15, r71_17, am_nl_i, am_nl_r, am_nl_n, am_nl_l, Option.bind_some, Option.toList_some, Option.toList_none, List.cons_append, List.nil_append, if_true, if_false, Bool.false_eq_true, Int.reduceEq, Int.reduceAdd, ↓reduceIte, c_isName, h]
  · simp (disch := first | assumption | omega | rfl | exact Nat.le_of_ble_eq_true rfl | decide) only [r71_0, r71_1, r71_4, r71_7, r71_8, r71_9, r71_12, r71_15, r71_17, am_nl_i, am_nl_r, am_nl_n, am_nl_l, Option.bind_some, Option.toList_some, Option.toList_none, List.cons_append, List.nil_append, if_true, if_false, Bool.false_eq_true, Int.reduceEq, Int.reduceAdd, ↓reduceIte, c_isName, h, c_generationsOf hR hW]
def sp_image (T : tS) : Int32 × tS := (nI (s_n T), x_im T (some (s_n T, s_tl T, s_wr T, s_lv T)))
theorem c_image {d : Nat} {σ : am_St} {τ : Int64} {T : tS} (hR : RC σ T) (hW : WF T) : ∃ σ' : am_St, am_call (d + 1) 72 [.ref 0] σ τ = some (some (.int (sp_image T).1), σ', τ) ∧ RC σ' (sp_image T).2 ∧ ∀ c, 42 ≤ c → σ' c = σ c := by
  have hn := hR.1
  obtain ⟨σ', g1, g2, g3, g4, g5⟩ := c_keep (d := d) (τ := τ) (t := s_tl T) (w := s_wr T) (a := s_lv T) hW.1 (fun i hi => (hW.2.1 i hi).2.2.2.2) hn (fun i hi => ⟨(hR.2.1 i hi).2.2.2.2.2.2.1, (hR.2.1 i hi).2.2.2.2.2.2.2.1, (hR.2.1 i hi).2.2.2.2.2.2.2.2.1⟩)
  have hn2 : σ' 4 0 = nI (s_n T) := by rw [g2 4 (by omega)]; exact hn
  refine ⟨σ', ?_, ?_, fun c hc => g2 c (by omega)⟩
  · show am_run (d + 1) 72 0 [.ref 0] [] σ τ = _
    simp (disch := first | assumption | omega | rfl | exact Nat.le_of_ble_eq_true rfl | decide) only [r72_0, r72_1, r72_4, r72_5, r72_8, r72_11, r72_12, r72_15, r72_18, am_gf_4_0, am_gf_0_2, am_gf_0_8, am_nl_i, am_nl_r, am_nl_n, am_nl_l, Option.bind_some, Option.toList_some, Option.toList_none, List.cons_append, List.nil_append, if_true, if_false, Bool.false_eq_true, Int.reduceEq, Int.reduceAdd, ↓reduceIte, g1, hn2]
    rfl
  · obtain ⟨r1, r2, r3, r4, r5, r6, -⟩ := hR
    refine ⟨hn2, fun i hi => ?_, by rw [g2 3 (by omega)]; exact r3, by rw [g2 1 (by omega), g2 2 (by omega)]; exact r4, by rw [g2 0 (by omega)]; exact r5, by rw [g2 0 (by omega)]; exact r6, g3, g4, g5⟩
    rw [g2 5 (by omega), g2 6 (by omega), g2 7 (by omega), g2 8 (by omega), g2 9 (by omega), g2 10 (by omega), g2 11 (by omega), g2 12 (by omega), g2 13 (by omega), g2 16 (by omega), g2 14 (by omega)]
    exact r2 i hi
theorem WF.image {T : tS} (hW : WF T) : WF (sp_image T).2 := by
  obtain ⟨w1, w2, w3, w4, w5, w6, -⟩ := hW
  refine ⟨w1, w2, w3, w4, w5, w6, fun im him => ?_⟩
  cases him
  exact ⟨Nat.le_refl _, fun j hj => (w2 j hj).2.2.2.2⟩
