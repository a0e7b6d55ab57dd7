/-! Integer.bitCount; OtherName: lasts, image, restore, count, blank, fault, law -/
def bcF (x0 : Int32) : Int32 :=
  let ush : Int32 → Int32 → Int32 := fun x y => (x.toUInt32 >>> (y.toUInt32 &&& Int32.toUInt32 31)).toInt32
  let a := x0 - (ush x0 1 &&& 1431655765)
  let b := (a &&& 858993459) + (ush a 2 &&& 858993459)
  let c := (b + ush b 4) &&& 252645135
  let e := c + ush c 8
  let f := e + ush e 16
  f &&& 63
theorem c_bitCount {d : Nat} {σ : am_St} {τ : Int64} {x : Int32} : am_call d 142 [.int x] σ τ = some (some (.int (bcF x)), σ, τ) := by
  show am_run d 142 0 [.int x] [] σ τ = _
  simp (disch := first | assumption | omega | rfl | exact Nat.le_of_ble_eq_true rfl | decide) only [r142_0, r142_1, r142_2, r142_3, r142_4, r142_7, r142_8, r142_9, r142_10, r142_11, r142_14, r142_15, r142_16, r142_17, r142_18, r142_21, r142_22, r142_23, r142_24, r142_25, r142_26, r142_27, r142_28, r142_29, r142_32, r142_33, r142_34, r142_35, r142_36, r142_38, r142_39, r142_40, r142_41, r142_42, r142_43, r142_45, r142_46, r142_47, r142_48, r142_49, r142_51, r142_52, am_nl_i, am_nl_r, am_nl_n, am_nl_l, Option.bind_some, Option.toList_some, Option.toList_none, List.cons_append, List.nil_append, if_true, if_false, Bool.false_eq_true, Int.reduceEq, Int.reduceAdd, ↓reduceIte]
  rfl
/-- how many of the first k bits -/
def pcN (m : Nat) : Nat → Nat
  | 0 => 0
  | k + 1 => pcN m k + m / 2 ^ k % 2
theorem bc_pc0 : ∀ a, a < 64 → ∀ b, b < 64 → bcF (nI (64 * a + b)) = nI (pcN (64 * a + b) 12) := by decide +kernel
theorem bc_pc (m : Nat) (h : m < 4096) : bcF (nI m) = nI (pcN m 12) := by
  have := bc_pc0 (m / 64) (by omega) (m % 64) (by omega)
  rw [show 64 * (m / 64) + m % 64 = m by omega] at this
  exact this
theorem sh_pw : ∀ g, g < 12 → (1 : Int32) <<< (nI g &&& 31) = nI (2 ^ g) := by decide +kernel
theorem ni_or (a b : Nat) : nI a ||| nI b = nI (a ||| b) := by
  apply Int32.toBitVec_inj.1
  show BitVec.ofNat 32 a ||| BitVec.ofNat 32 b = BitVec.ofNat 32 (a ||| b)
  apply BitVec.eq_of_getLsbD_eq
  intro i hi
  simp [hi]
/-- the generations in which a name is, as bits -/
def seF (nm : Nat → Int32) (gn : Nat → Nat) (x : Int32) : Nat → Nat
  | 0 => 0
  | i + 1 => if nm i = x then seF nm gn x i ||| 2 ^ gn i else seF nm gn x i
theorem seF_s (nm : Nat → Int32) (gn : Nat → Nat) (x : Int32) (i : Nat) : seF nm gn x (i + 1) = if nm i = x then seF nm gn x i ||| 2 ^ gn i else seF nm gn x i := rfl
theorem seF_lt {nm : Nat → Int32} {gn : Nat → Nat} {x : Int32} {n : Nat} (hg : ∀ i, i < n → gn i < 12) : ∀ i, i ≤ n → seF nm gn x i < 4096 := by
  intro i
  induction i with
  | zero => intro _; show 0 < 4096; omega
  | succ i ih =>
    intro hi
    rw [seF_s]
    split
    · have h1 : seF nm gn x i < 2 ^ 12 := ih (by omega)
      have h2 : 2 ^ gn i < 2 ^ 12 := Nat.pow_lt_pow_right (by omega) (hg i (by omega))
      exact Nat.or_lt_two_pow h1 h2
    · exact ih (by omega)
def s_la (T : tS) (x : Int32) : Nat := pcN (seF (s_nm T) (s_gn T) x (s_n T)) 12
theorem gnA_j {n : Nat} {al : Nat → Bool} {f g : Nat → Nat} (hS : PS n al f g) : ∀ m, m ≤ n → ∀ j, j < m → gnA al f g m j ≤ j := by
  intro m
  induction m with
  | zero => intro _ j h; omega
  | succ m ih =>
    intro hm j hj
    rw [gnA_s]
    dsimp only
    by_cases e : j = m
    · subst e
      rw [if_pos rfl]
      cases ha : al j with
      | true => simp
      | false =>
        obtain ⟨h1, h2⟩ := hS j (by omega) ha
        have h3 := ih (by omega) (f j) h1
        have h4 := ih (by omega) (g j) h2
        simp only [Bool.false_eq_true, if_false]
        split <;> omega
    · rw [if_neg e]
      exact ih (by omega) j (by omega)
theorem WF.ps {T : tS} (hW : WF T) : PS (s_n T) (s_al T) (s_f T) (s_g T) := fun i hi ha => ⟨((hW.2.1 i hi).2.2.1 ha).1, ((hW.2.1 i hi).2.2.1 ha).2.1⟩
theorem gn_lt {T : tS} (hW : WF T) : ∀ i, i < s_n T → s_gn T i < 12 := by
  intro i hi
  have h12 := hW.1
  have := gnA_j hW.ps (s_n T) (Nat.le_refl _) i hi
  unfold s_gn
  omega
theorem c_gen_loop {d : Nat} {σ : am_St} {τ : Int64} {T : tS} {x : Int32} (hR : RC σ T) (hW : WF T) : ∀ k i, i + k = s_n T → am_run (d + 1) 78 4 [.ref 0, .int x, .int (nI (seF (s_nm T) (s_gn T) x i)), .int (nI i)] [] σ τ = some (some (.int (nI (s_la T x))), σ, τ) := by
  intro k
  have hn := hR.1
  have h12 := hW.1
  induction k with
  | zero =>
    intro i hi
    have e : i = s_n T := by omega
    subst e
    rw [r78_4]
    have hl := seF_lt (nm := s_nm T) (x := x) (gn_lt hW) (s_n T) (Nat.le_refl _)
    simp (disch := first | assumption | omega | rfl | exact Nat.le_of_ble_eq_true rfl | decide) only [r78_0, r78_1, r78_2, r78_3, r78_5, r78_6, r78_9, r78_12, r78_15, r78_16, r78_19, r78_22, r78_23, r78_24, r78_25, r78_28, r78_29, r78_30, r78_31, r78_34, r78_37, r78_38, r78_39, r78_40, r78_41, r78_42, r78_45, r78_48, r78_49, r78_52, am_gf_4_0, am_gf_4_6, am_gf_15_0, am_gf_18_0, am_gf_0_2, am_gf_0_3, am_ai_10, am_ai_16, am_ai_19, am_nl_i, am_nl_r, am_nl_n, am_nl_l, Option.bind_some, Option.toList_some, Option.toList_none, List.cons_append, List.nil_append, if_true, if_false, Bool.false_eq_true, Int.reduceEq, Int.reduceAdd, ↓reduceIte, hn, i_rf, c_bitCount, bc_pc _ hl]
    rfl
  | succ k ih =>
    intro i hi
    have hc : ¬ s_n T ≤ i := by omega
    have hi12 : i < 12 := by omega
    obtain ⟨-, -, -, -, -, q10, -, -, -, q16, -⟩ := hR.2.1 i (by omega)
    have hp := sh_pw (s_gn T i) (gn_lt hW i (by omega))
    rw [← ih (i + 1) (by omega), r78_4, seF_s]
    by_cases h : s_nm T i = x
    · simp (disch := first | assumption | omega | rfl | exact Nat.le_of_ble_eq_true rfl | decide) only [r78_0, r78_1, r78_2, r78_3, r78_5, r78_6, r78_9, r78_12, r78_15, r78_16, r78_19, r78_22, r78_23, r78_24, r78_25, r78_28, r78_29, r78_30, r78_31, r78_34, r78_37, r78_38, r78_39, r78_40, r78_41, r78_42, r78_45, r78_48, r78_49, r78_52, am_gf_4_0, am_gf_4_6, am_gf_15_0, am_gf_18_0, am_gf_0_2, am_gf_0_3, am_ai_10, am_ai_16, am_ai_19, am_nl_i, am_nl_r, am_nl_n, am_nl_l, Option.bind_some, Option.toList_some, Option.toList_none, List.cons_append, List.nil_append, if_true, if_false, Bool.false_eq_true, Int.reduceEq, Int.reduceAdd, ↓reduceIte, hn, ni_le, hc, q16, h, q10, hp, ni_or, nI_1]
    · simp (disch := first | assumption | omega | rfl | exact Nat.le_of_ble_eq_true rfl | decide) only [r78_0, r78_1, r78_2, r78_3, r78_5, r78_6, r78_9, r78_12, r78_15, r78_16, r78_19, r78_22, r78_23, r78_24, r78_25, r78_28, r78_29, r78_30, r78_31, r78_34, r78_37, r78_38, r78_39, r78_40, r78_41, r78_42, r78_45, r78_48, r78_49, r78_52, am_gf_4_0, am_gf_4_6, am_gf_15_0, am_gf_18_0, am_gf_0_2, am_gf_0_3, am_ai_10, am_ai_16, am_ai_19, am_nl_i, am_nl_r, am_nl_n, am_nl_l, Option.bind_some, Option.toList_some, Option.toList_none, List.cons_append, List.nil_append, if_true, if_false, Bool.false_eq_true, Int.reduceEq, Int.reduceAdd, ↓reduceIte, hn, ni_le, hc, q16, h, nI_1]
theorem c_generationsOf {d : Nat} {σ : am_St} {τ : Int64} {T : tS} {x : Int32} (hR : RC σ T) (hW : WF T) : am_call (d + 1) 78 [.ref 0, .int x] σ τ = some (some (.int (nI (s_la T x))), σ, τ) := by
  show am_run (d + 1) 78 0 [.ref 0, .int x, .null, .null] [] σ τ = _
  simp (disch := first | assumption | omega | rfl | exact Nat.le_of_ble_eq_true rfl | decide) only [r78_0, r78_1, r78_2, r78_3, r78_5, r78_6, r78_9, r78_12, r78_15, r78_16, r78_19, r78_22, r78_23, r78_24, r78_25, r78_28, r78_29, r78_30, r78_31, r78_34, r78_37, r78_38, r78_39, r78_40, r78_41, r78_42, r78_45, r78_48, r78_49, r78_52, am_gf_4_0, am_gf_4_6, am_gf_15_0, am_gf_18_0, am_gf_0_2, am_gf_0_3, am_ai_10, am_ai_16, am_ai_19, am_nl_i, am_nl_r, am_nl_n, am_nl_l, Option.bind_some, Option.toList_some, Option.toList_none, List.cons_append, List.nil_append, if_true, if_false, Bool.false_eq_true, Int.reduceEq, Int.reduceAdd, ↓reduceIte]
  exact c_gen_loop hR hW (s_n T) 0 (by omega)
def sp_lasts (T : tS) (x : Int32) : Int32 := if nmB x = 0 then -101 else nI (s_la T x)
theorem c_lasts {d : Nat} {σ : am_St} {τ : Int64} {T : tS} {x : Int32} (hR : RC σ T) (hW : WF T) : am_call (d + 2) 71 [.ref 0, .int x] σ τ = some (some (.int (sp_lasts T x)), σ, τ) := by
  show am_run (d + 2) 71 0 [.ref 0, .int x] [] σ τ = _
  unfold sp_lasts
  by_cases h : nmB x = 0
  · simp (disch := first | assumption | omega | rfl | exact Nat.le_of_ble_eq_true rfl | decide) only [r71_0, r71_1, r71_4, r71_7, r71_8, r71_9, r71_12, r71_15, r71_17, am_nl_i, am_nl_r, am_nl_n, am_nl_l, Option.bind_some, Option.toList_some, Option.toList_none, List.cons_append, List.nil_append, if_true, if_false, Bool.false_eq_true, Int.reduceEq, Int.reduceAdd, ↓reduceIte, c_isName, h]
  · simp (disch := first | assumption | omega | rfl | exact Nat.le_of_ble_eq_true rfl | decide) only [r71_0, r71_1, r71_4, r71_7, r71_8, r71_9, r71_12, r71_15, r71_17, am_nl_i, am_nl_r, am_nl_n, am_nl_l, Option.bind_some, Option.toList_some, Option.toList_none, List.cons_append, List.nil_append, if_true, if_false, Bool.false_eq_true, Int.reduceEq, Int.reduceAdd, ↓reduceIte, c_isName, h, c_generationsOf hR hW]
def sp_image (T : tS) : Int32 × tS := (nI (s_n T), x_im T (some (s_n T, s_tl T, s_wr T, s_lv T)))
theorem c_image {d : Nat} {σ : am_St} {τ : Int64} {T : tS} (hR : RC σ T) (hW : WF T) : ∃ σ' : am_St, am_call (d + 1) 72 [.ref 0] σ τ = some (some (.int (sp_image T).1), σ', τ) ∧ RC σ' (sp_image T).2 ∧ ∀ c, 42 ≤ c → σ' c = σ c := by
  have hn := hR.1
  obtain ⟨σ', g1, g2, g3, g4, g5⟩ := c_keep (d := d) (τ := τ) (t := s_tl T) (w := s_wr T) (a := s_lv T) hW.1 (fun i hi => (hW.2.1 i hi).2.2.2.2) hn (fun i hi => ⟨(hR.2.1 i hi).2.2.2.2.2.2.1, (hR.2.1 i hi).2.2.2.2.2.2.2.1, (hR.2.1 i hi).2.2.2.2.2.2.2.2.1⟩)
  have hn2 : σ' 4 0 = nI (s_n T) := by rw [g2 4 (by omega)]; exact hn
  refine ⟨σ', ?_, ?_, fun c hc => g2 c (by omega)⟩
  · show am_run (d + 1) 72 0 [.ref 0] [] σ τ = _
    simp (disch := first | assumption | omega | rfl | exact Nat.le_of_ble_eq_true rfl | decide) only [r72_0, r72_1, r72_4, r72_5, r72_8, r72_11, r72_12, r72_15, r72_18, am_gf_4_0, am_gf_0_2, am_gf_0_8, am_nl_i, am_nl_r, am_nl_n, am_nl_l, Option.bind_some, Option.toList_some, Option.toList_none, List.cons_append, List.nil_append, if_true, if_false, Bool.false_eq_true, Int.reduceEq, Int.reduceAdd, ↓reduceIte, g1, hn2]
    rfl
  · obtain ⟨r1, r2, r3, r4, r5, r6, -⟩ := hR
    refine ⟨hn2, fun i hi => ?_, by rw [g2 3 (by omega)]; exact r3, by rw [g2 1 (by omega), g2 2 (by omega)]; exact r4, by rw [g2 0 (by omega)]; exact r5, by rw [g2 0 (by omega)]; exact r6, g3, g4, g5⟩
    rw [g2 5 (by omega), g2 6 (by omega), g2 7 (by omega), g2 8 (by omega), g2 9 (by omega), g2 10 (by omega), g2 11 (by omega), g2 12 (by omega), g2 13 (by omega), g2 16 (by omega), g2 14 (by omega)]
    exact r2 i hi
theorem WF.image {T : tS} (hW : WF T) : WF (sp_image T).2 := by
  obtain ⟨w1, w2, w3, w4, w5, w6, -⟩ := hW
  refine ⟨w1, w2, w3, w4, w5, w6, fun im him => ?_⟩
  cases him
  exact ⟨Nat.le_refl _, fun j hj => (w2 j hj).2.2.2.2⟩
/-! restore, count -/
def sp_restore (T : tS) : Int32 × tS := match s_im T with
  | none => (-103, T)
  | some im => (nI im.1, ((im.1, s_kd T, s_sx T, s_f T, s_g T, s_gp T, im.2.1, im.2.2.1, im.2.2.2), T.2))
theorem c_restore {d : Nat} {σ : am_St} {τ : Int64} {T : tS} (hR : RC σ T) (hW : WF T) : ∃ σ' : am_St, am_call (d + 5) 73 [.ref 0] σ τ = some (some (.int (sp_restore T).1), σ', τ) ∧ RC σ' (sp_restore T).2 ∧ ∀ c, 42 ≤ c → σ' c = σ c := by
  have hn := hR.1
  have hph := hR.ph hW
  have hps := hW.ps
  obtain ⟨r1, r2, r3, r4, r5, r6, r7⟩ := hR
  unfold sp_restore
  cases hi : s_im T with
  | none =>
    rw [hi] at r7
    have h0 : σ 38 0 = 0 := r7
    refine ⟨σ, ?_, ⟨r1, r2, r3, r4, r5, r6, ?_⟩, fun _ _ => rfl⟩
    · show am_run (d + 5) 73 0 [.ref 0] [] σ τ = _
      simp (disch := first | assumption | omega | rfl | exact Nat.le_of_ble_eq_true rfl | decide) only [r73_0, r73_1, r73_4, r73_7, r73_10, r73_12, r73_13, r73_14, r73_17, r73_18, r73_21, r73_24, r73_25, r73_28, r73_29, r73_32, r73_35, am_gf_4_0, am_gf_38_0, am_gf_0_2, am_gf_0_8, am_nl_i, am_nl_r, am_nl_n, am_nl_l, Option.bind_some, Option.toList_some, Option.toList_none, List.cons_append, List.nil_append, if_true, if_false, Bool.false_eq_true, Int.reduceEq, Int.reduceAdd, ↓reduceIte, h0]
    · rw [hi]; exact h0
  | some im =>
    rw [hi] at r7
    obtain ⟨h0, h1, h2⟩ : σ 38 0 = 1 ∧ σ 38 1 = nI im.1 ∧ ∀ j, j < im.1 → σ 39 j = im.2.1 j ∧ σ 40 j = im.2.2.1 j ∧ σ 41 j = im.2.2.2 j := r7
    obtain ⟨w1, w2⟩ := hW.2.2.2.2.2.2 im hi
    have h12 := hW.1
    obtain ⟨σ1, a1, a2, a3, a4, a5⟩ := c_giveBack (d := d + 4) (τ := τ) (t := im.2.1) (w := im.2.2.1) (a := im.2.2.2) (show im.1 ≤ 12 by omega) w2 h1 h2
    obtain ⟨σ', g1, g2, g3⟩ := c_nameAll (d := d) (σ := σ1) (τ := τ) (n := im.1) (kd := s_kd T) (tl := im.2.1) (al := s_al T) (f := s_f T) (g := s_g T) (lw := s_lw T) (by omega) a3 (fun i hi => by rw [a2 7 (by decide) (by decide) (by decide) (by decide), a2 8 (by decide) (by decide) (by decide) (by decide)]; exact hph i (by omega)) (fun i hi => by rw [a2 5 (by decide) (by decide) (by decide) (by decide)]; exact ⟨(r2 i (by omega)).1, (a5 i hi).1⟩) (fun i hi => by rw [a2 3 (by decide) (by decide) (by decide) (by decide)]; exact r3 i hi)
    have k : ∀ c, c ≠ 4 → c ≠ 11 → c ≠ 12 → c ≠ 13 → c ≠ 16 → c ≠ 17 → σ' c = σ c := fun c x y z w v u => by rw [g2 c v u, a2 c x y z w]
    have k4 : σ' 4 0 = nI im.1 := by rw [g2 4 (by decide) (by decide)]; exact a3
    refine ⟨σ', ?_, ?_, fun c hc => k c (by omega) (by omega) (by omega) (by omega) (by omega) (by omega)⟩
    · show am_run (d + 5) 73 0 [.ref 0] [] σ τ = _
      simp (disch := first | assumption | omega | rfl | exact Nat.le_of_ble_eq_true rfl | decide) only [r73_0, r73_1, r73_4, r73_7, r73_10, r73_12, r73_13, r73_14, r73_17, r73_18, r73_21, r73_24, r73_25, r73_28, r73_29, r73_32, r73_35, am_gf_4_0, am_gf_38_0, am_gf_0_2, am_gf_0_8, am_nl_i, am_nl_r, am_nl_n, am_nl_l, Option.bind_some, Option.toList_some, Option.toList_none, List.cons_append, List.nil_append, if_true, if_false, Bool.false_eq_true, Int.reduceEq, Int.reduceAdd, ↓reduceIte, h0, e10, a1, g1, k4]
    · refine ⟨k4, fun i hi2 => ?_, ?_, ?_, ?_, ?_, ?_⟩
      · have hi3 : i < im.1 := hi2
        obtain ⟨b1, b2, b3, b4, b5, b6, b7, b8, b9, b10, b11⟩ := r2 i (by omega)
        obtain ⟨c1, c2, c3⟩ := a5 i hi3
        rw [k 5 (by decide) (by decide) (by decide) (by decide) (by decide) (by decide), k 6 (by decide) (by decide) (by decide) (by decide) (by decide) (by decide), k 7 (by decide) (by decide) (by decide) (by decide) (by decide) (by decide), k 8 (by decide) (by decide) (by decide) (by decide) (by decide) (by decide), k 9 (by decide) (by decide) (by decide) (by decide) (by decide) (by decide), k 10 (by decide) (by decide) (by decide) (by decide) (by decide) (by decide), k 14 (by decide) (by decide) (by decide) (by decide) (by decide) (by decide), g2 11 (by decide) (by decide), g2 12 (by decide) (by decide), g2 13 (by decide) (by decide)]
        refine ⟨b1, b2, b3, b4, b5, ?_, c1, c2, c3, g3 i hi3, fun j hj => ?_⟩
        · rw [b6]
          show nI (gnA (s_al T) (s_f T) (s_g T) (s_n T) i) = nI (gnA (s_al T) (s_f T) (s_g T) im.1 i)
          rw [gnA_stable hi3 w1]
        · rw [b11 j hj]
          show upA (s_al T) (s_f T) (s_g T) (s_n T) i j = upA (s_al T) (s_f T) (s_g T) im.1 i j
          rw [upA_stable hi3 w1]
      · intro j hj
        rw [k 3 (by decide) (by decide) (by decide) (by decide) (by decide) (by decide)]; exact r3 j hj
      · rw [k 1 (by decide) (by decide) (by decide) (by decide) (by decide) (by decide), k 2 (by decide) (by decide) (by decide) (by decide) (by decide) (by decide)]; exact r4
      · rw [k 0 (by decide) (by decide) (by decide) (by decide) (by decide) (by decide)]; exact r5
      · rw [k 0 (by decide) (by decide) (by decide) (by decide) (by decide) (by decide)]; exact r6
      · show match s_im T with
          | none => _
          | some im => _
        rw [hi, k 38 (by decide) (by decide) (by decide) (by decide) (by decide) (by decide), k 39 (by decide) (by decide) (by decide) (by decide) (by decide) (by decide), k 40 (by decide) (by decide) (by decide) (by decide) (by decide) (by decide), k 41 (by decide) (by decide) (by decide) (by decide) (by decide) (by decide)]
        exact ⟨h0, h1, h2⟩
theorem WF.restore {T : tS} (hW : WF T) : WF (sp_restore T).2 := by
  have hW0 := hW
  obtain ⟨w1, w2, w3, w4, w5, w6, w7⟩ := hW
  unfold sp_restore
  cases hi : s_im T with
  | none => exact hW0
  | some im =>
    obtain ⟨v1, v2⟩ := w7 im hi
    refine ⟨by show im.1 ≤ 12; omega, fun i hi2 => ?_, Nat.le_trans (cnt_mono (s_gp T) v1) w3, w4, w5, w6, fun im2 him => ?_⟩
    · have hi3 : i < im.1 := hi2
      obtain ⟨b1, b2, b3, b4, b5⟩ := w2 i (by omega)
      exact ⟨b1, b2, b3, b4, v2 i hi3⟩
    · have : im2 = im := by
        have h2 : s_im T = some im2 := him
        rw [hi] at h2
        exact (Option.some.inj h2).symm
      subst this
      exact ⟨Nat.le_refl _, v2⟩
def cntS (T : tS) (x : Int32) : Int32 := if x = 0 then nI (s_n T) else if x = 1 then nI (cnt (s_gp T) (s_n T)) else if x = 2 then nI (cnt (fun i => !decide (s_lv T i = 0)) (s_n T)) else if x = 3 then nI (cnt (fun i => !decide (s_wr T i = -1)) (s_n T)) else if x = 4 then nI (s_pl T) else if x = 5 then s_lr T else if x = 6 then nI (s_md T) else -102
theorem c_count {d : Nat} {σ : am_St} {τ : Int64} {T : tS} {x : Int32} (hR : RC σ T) (hW : WF T) : am_call (d + 1) 74 [.ref 0, .int x] σ τ = some (some (.int (cntS T x)), σ, τ) := by
  show am_run (d + 1) 74 0 [.ref 0, .int x] [] σ τ = _
  have hn := hR.1
  have h12 := hW.1
  have hg : am_call d 11 [.ref 4] σ τ = some (some (.int (nI (cnt (s_gp T) (s_n T)))), σ, τ) := by
    rw [c_gaps hn h12, cnt_congr (Q := s_gp T) (fun i hi => by rw [(hR.2.1 i hi).2.2.2.2.1]; cases s_gp T i <;> decide)]
  have hl : am_call d 12 [.ref 4] σ τ = some (some (.int (nI (cnt (fun i => !decide (s_lv T i = 0)) (s_n T)))), σ, τ) := by
    rw [c_living hn h12, cnt_congr (Q := fun i => !decide (s_lv T i = 0)) (fun i hi => by rw [(hR.2.1 i hi).2.2.2.2.2.2.2.2.1])]
  have he : am_call d 13 [.ref 4] σ τ = some (some (.int (nI (cnt (fun i => !decide (s_wr T i = -1)) (s_n T)))), σ, τ) := by
    rw [c_entries hn h12, cnt_congr (Q := fun i => !decide (s_wr T i = -1)) (fun i hi => by rw [(hR.2.1 i hi).2.2.2.2.2.2.2.1])]
  have hp := hR.2.2.2.1.1
  have hlr := hR.2.2.2.2.1
  have hmd := hR.2.2.2.2.2.1
  unfold cntS
  by_cases h0 : x = 0
  · subst h0
    have t0 : (0 : Int32).toInt = 0 := by decide
    simp (disch := first | assumption | omega | rfl | exact Nat.le_of_ble_eq_true rfl | decide) only [r74_0, r74_1, r74_44, r74_45, r74_48, r74_51, r74_52, r74_53, r74_56, r74_59, r74_60, r74_61, r74_64, r74_67, r74_68, r74_69, r74_72, r74_75, r74_76, r74_77, r74_80, r74_83, r74_84, r74_85, r74_88, r74_89, r74_90, r74_93, r74_94, r74_96, am_gf_4_0, am_gf_1_1, am_gf_0_0, am_gf_0_2, am_gf_0_9, am_gf_0_10, am_nl_i, am_nl_r, am_nl_n, am_nl_l, Option.bind_some, Option.toList_some, Option.toList_none, List.cons_append, List.nil_append, if_true, if_false, Bool.false_eq_true, Int.reduceEq, Int.reduceAdd, ↓reduceIte, am_sw, t0, hn]
  · by_cases h1 : x = 1
    · subst h1
      have t1 : (1 : Int32).toInt = 1 := by decide
      simp (disch := first | assumption | omega | rfl | exact Nat.le_of_ble_eq_true rfl | decide) only [r74_0, r74_1, r74_44, r74_45, r74_48, r74_51, r74_52, r74_53, r74_56, r74_59, r74_60, r74_61, r74_64, r74_67, r74_68, r74_69, r74_72, r74_75, r74_76, r74_77, r74_80, r74_83, r74_84, r74_85, r74_88, r74_89, r74_90, r74_93, r74_94, r74_96, am_gf_4_0, am_gf_1_1, am_gf_0_0, am_gf_0_2, am_gf_0_9, am_gf_0_10, am_nl_i, am_nl_r, am_nl_n, am_nl_l, Option.bind_some, Option.toList_some, Option.toList_none, List.cons_append, List.nil_append, if_true, if_false, Bool.false_eq_true, Int.reduceEq, Int.reduceAdd, ↓reduceIte, am_sw, t1, h0, hg]
    · by_cases h2 : x = 2
      · subst h2
        have t2 : (2 : Int32).toInt = 2 := by decide
        simp (disch := first | assumption | omega | rfl | exact Nat.le_of_ble_eq_true rfl | decide) only [r74_0, r74_1, r74_44, r74_45, r74_48, r74_51, r74_52, r74_53, r74_56, r74_59, r74_60, r74_61, r74_64, r74_67, r74_68, r74_69, r74_72, r74_75, r74_76, r74_77, r74_80, r74_83, r74_84, r74_85, r74_88, r74_89, r74_90, r74_93, r74_94, r74_96, am_gf_4_0, am_gf_1_1, am_gf_0_0, am_gf_0_2, am_gf_0_9, am_gf_0_10, am_nl_i, am_nl_r, am_nl_n, am_nl_l, Option.bind_some, Option.toList_some, Option.toList_none, List.cons_append, List.nil_append, if_true, if_false, Bool.false_eq_true, Int.reduceEq, Int.reduceAdd, ↓reduceIte, am_sw, t2, h0, h1, hl]
      · by_cases h3 : x = 3
        · subst h3
          have t3 : (3 : Int32).toInt = 3 := by decide
          simp (disch := first | assumption | omega | rfl | exact Nat.le_of_ble_eq_true rfl | decide) only [r74_0, r74_1, r74_44, r74_45, r74_48, r74_51, r74_52, r74_53, r74_56, r74_59, r74_60, r74_61, r74_64, r74_67, r74_68, r74_69, r74_72, r74_75, r74_76, r74_77, r74_80, r74_83, r74_84, r74_85, r74_88, r74_89, r74_90, r74_93, r74_94, r74_96, am_gf_4_0, am_gf_1_1, am_gf_0_0, am_gf_0_2, am_gf_0_9, am_gf_0_10, am_nl_i, am_nl_r, am_nl_n, am_nl_l, Option.bind_some, Option.toList_some, Option.toList_none, List.cons_append, List.nil_append, if_true, if_false, Bool.false_eq_true, Int.reduceEq, Int.reduceAdd, ↓reduceIte, am_sw, t3, h0, h1, h2, he]
        · by_cases h4 : x = 4
          · subst h4
            have t4 : (4 : Int32).toInt = 4 := by decide
            simp (disch := first | assumption | omega | rfl | exact Nat.le_of_ble_eq_true rfl | decide) only [r74_0, r74_1, r74_44, r74_45, r74_48, r74_51, r74_52, r74_53, r74_56, r74_59, r74_60, r74_61, r74_64, r74_67, r74_68, r74_69, r74_72, r74_75, r74_76, r74_77, r74_80, r74_83, r74_84, r74_85, r74_88, r74_89, r74_90, r74_93, r74_94, r74_96, am_gf_4_0, am_gf_1_1, am_gf_0_0, am_gf_0_2, am_gf_0_9, am_gf_0_10, am_nl_i, am_nl_r, am_nl_n, am_nl_l, Option.bind_some, Option.toList_some, Option.toList_none, List.cons_append, List.nil_append, if_true, if_false, Bool.false_eq_true, Int.reduceEq, Int.reduceAdd, ↓reduceIte, am_sw, t4, h0, h1, h2, h3, hp]
          · by_cases h5 : x = 5
            · subst h5
              have t5 : (5 : Int32).toInt = 5 := by decide
              simp (disch := first | assumption | omega | rfl | exact Nat.le_of_ble_eq_true rfl | decide) only [r74_0, r74_1, r74_44, r74_45, r74_48, r74_51, r74_52, r74_53, r74_56, r74_59, r74_60, r74_61, r74_64, r74_67, r74_68, r74_69, r74_72, r74_75, r74_76, r74_77, r74_80, r74_83, r74_84, r74_85, r74_88, r74_89, r74_90, r74_93, r74_94, r74_96, am_gf_4_0, am_gf_1_1, am_gf_0_0, am_gf_0_2, am_gf_0_9, am_gf_0_10, am_nl_i, am_nl_r, am_nl_n, am_nl_l, Option.bind_some, Option.toList_some, Option.toList_none, List.cons_append, List.nil_append, if_true, if_false, Bool.false_eq_true, Int.reduceEq, Int.reduceAdd, ↓reduceIte, am_sw, t5, h0, h1, h2, h3, h4, hlr]
            · by_cases h6 : x = 6
              · subst h6
                have t6 : (6 : Int32).toInt = 6 := by decide
                simp (disch := first | assumption | omega | rfl | exact Nat.le_of_ble_eq_true rfl | decide) only [r74_0, r74_1, r74_44, r74_45, r74_48, r74_51, r74_52, r74_53, r74_56, r74_59, r74_60, r74_61, r74_64, r74_67, r74_68, r74_69, r74_72, r74_75, r74_76, r74_77, r74_80, r74_83, r74_84, r74_85, r74_88, r74_89, r74_90, r74_93, r74_94, r74_96, am_gf_4_0, am_gf_1_1, am_gf_0_0, am_gf_0_2, am_gf_0_9, am_gf_0_10, am_nl_i, am_nl_r, am_nl_n, am_nl_l, Option.bind_some, Option.toList_some, Option.toList_none, List.cons_append, List.nil_append, if_true, if_false, Bool.false_eq_true, Int.reduceEq, Int.reduceAdd, ↓reduceIte, am_sw, t6, h0, h1, h2, h3, h4, h5, hmd]
              · have t0 : ¬ x.toInt = 0 := lv_neT h0 rfl
                have t1 : ¬ x.toInt = 1 := lv_neT h1 rfl
                have t2 : ¬ x.toInt = 2 := lv_neT h2 rfl
                have t3 : ¬ x.toInt = 3 := lv_neT h3 rfl
                have t4 : ¬ x.toInt = 4 := lv_neT h4 rfl
                have t5 : ¬ x.toInt = 5 := lv_neT h5 rfl
                have t6 : ¬ x.toInt = 6 := lv_neT h6 rfl
                simp (disch := first | assumption | omega | rfl | exact Nat.le_of_ble_eq_true rfl | decide) only [r74_0, r74_1, r74_44, r74_45, r74_48, r74_51, r74_52, r74_53, r74_56, r74_59, r74_60, r74_61, r74_64, r74_67, r74_68, r74_69, r74_72, r74_75, r74_76, r74_77, r74_80, r74_83, r74_84, r74_85, r74_88, r74_89, r74_90, r74_93, r74_94, r74_96, am_gf_4_0, am_gf_1_1, am_gf_0_0, am_gf_0_2, am_gf_0_9, am_gf_0_10, am_nl_i, am_nl_r, am_nl_n, am_nl_l, Option.bind_some, Option.toList_some, Option.toList_none, List.cons_append, List.nil_append, if_true, if_false, Bool.false_eq_true, Int.reduceEq, Int.reduceAdd, ↓reduceIte, am_sw, t0, t1, t2, t3, t4, t5, t6, h0, h1, h2, h3, h4, h5, h6]
