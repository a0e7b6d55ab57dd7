/-! OtherName: person -/
def uq {α : Type} (h : Nat → α) (n : Nat) (v : α) : Nat → α := fun i => if i = n then v else h i
theorem uq_s {α : Type} {h : Nat → α} {n : Nat} {v : α} : uq h n v n = v := if_pos rfl
theorem uq_n {α : Type} {h : Nat → α} {n i : Nat} {v : α} (hi : i ≠ n) : uq h n v i = h i := if_neg hi
def sxB (T : tS) (x w : Int32) : Bool := match idx (s_n T) x with
  | none => false
  | some j => decide (s_sx T j = w)
def lmS (T : tS) : Int32 := ff (s_mn T) (s_n T) 0
def fthB (T : tS) (x : Int32) : Bool := if x = -2 then !decide (lmS T = -1) else sxB T x 0
theorem idx_ite {α : Type} {n : Nat} {x : Int32} {a : α} {b : Nat → α} : (if x < 0 then a else if nI n ≤ x then a else b x.toNatClampNeg) = match idx n x with
  | none => a
  | some j => b j := by
  unfold idx
  split
  · rfl
  · split <;> rfl
theorem c_sexT {d : Nat} {σ : am_St} {τ : Int64} {T : tS} {x w : Int32} (hR : RC σ T) (hW : WF T) : am_call (d + 1) 7 [.ref 4, .int x, .int w] σ τ = some (some (.int (if sxB T x w = true then 1 else 0)), σ, τ) := by
  rw [c_isOfSex hR.1 hW.1, idx_ite (a := (0 : Int32)) (b := fun j => if σ 6 j = w then 1 else 0)]
  unfold sxB
  cases h : idx (s_n T) x with
  | none => rfl
  | some j =>
    obtain ⟨hj, -⟩ := idx_some hW.1 h
    dsimp only
    rw [(hR.2.1 j hj).2.1]
    by_cases e : s_sx T j = w <;> simp [e]
theorem lm_eq {σ : am_St} {T : tS} (hR : RC σ T) : ff (fun j => decide (σ 6 j = 0)) (s_n T) 0 = lmS T := by
  unfold lmS
  apply ff_congr
  intro j _ hj
  rw [(hR.2.1 j (by omega)).2.1]
  rfl
theorem c_fthT {d : Nat} {σ : am_St} {τ : Int64} {T : tS} {x : Int32} (hR : RC σ T) (hW : WF T) : am_call (d + 2) 9 [.ref 4, .int x] σ τ = some (some (.int (if fthB T x = true then 1 else 0)), σ, τ) := by
  rw [c_fitsAsFather hR.1 hW.1, lm_eq hR]
  unfold fthB
  by_cases h : x = -2
  · rw [if_pos h, if_pos h]
    by_cases e : lmS T = -1 <;> simp [e]
  · rw [if_neg h, if_neg h, idx_ite (a := (0 : Int32)) (b := fun j => if σ 6 j = 0 then 1 else 0)]
    unfold sxB
    cases h : idx (s_n T) x with
    | none => rfl
    | some j =>
      obtain ⟨hj, -⟩ := idx_some hW.1 h
      dsimp only
      rw [(hR.2.1 j hj).2.1]
      by_cases e : s_sx T j = 0 <;> simp [e]
/-- the parents fit -/
def pfB (T : tS) (k f m : Int32) : Bool := if k = 1 ∨ k = 3 then decide (f = -1) && decide (m = -1) else fthB T f && sxB T m 1
def faS (T : tS) (f : Int32) : Nat := (if f = -2 then lmS T else f).toNatClampNeg
def x_add (T : tS) (k s f m z : Int32) : tS := ((s_n T + 1, upd (s_kd T) (s_n T) k, upd (s_sx T) (s_n T) s, uq (s_f T) (s_n T) (faS T f), uq (s_g T) (s_n T) m.toNatClampNeg, uq (s_gp T) (s_n T) (decide (f = -2)), upd (s_tl T) (s_n T) z, upd (s_wr T) (s_n T) (-1), upd (s_lv T) (s_n T) 1), T.2)
def pnB (k z : Int32) : Bool := if k = 1 ∨ k = 3 then decide (nmB z = 0) else !decide (z = 0)
def sp_person (T : tS) (k s f m z : Int32) : Int32 × tS := if kdB k = 0 ∨ ¬ (s = 0 ∨ s = 1) then (-102, T) else if pfB T k f m = false then (-101, T) else if pnB k z = true then (-102, T) else if s_n T = 12 ∨ (f = -2 ∧ 3 ≤ cnt (s_gp T) (s_n T)) then (-104, T) else (nI (s_n T), x_add T k s f m z)
theorem kdB_in {k : Int32} (h : ¬ kdB k = 0) : k = 0 ∨ k = 1 ∨ k = 2 ∨ k = 3 ∨ k = 4 := by
  unfold kdB at h
  split at h
  · exact absurd rfl h
  · rename_i h1
    split at h
    · exact absurd rfl h
    · rename_i h2
      obtain ⟨j, hj, rfl⟩ := nI_of2 (M := 4) (n := 4) (by decide) h1 (Int32.not_lt.mp h2)
      rcases (show j = 0 ∨ j = 1 ∨ j = 2 ∨ j = 3 ∨ j = 4 by omega) with rfl | rfl | rfl | rfl | rfl
      · exact Or.inl rfl
      · exact Or.inr (Or.inl rfl)
      · exact Or.inr (Or.inr (Or.inl rfl))
      · exact Or.inr (Or.inr (Or.inr (Or.inl rfl)))
      · exact Or.inr (Or.inr (Or.inr (Or.inr rfl)))
theorem sxB_some {T : tS} {x w : Int32} (h12 : s_n T ≤ 12) (h : sxB T x w = true) : ∃ j, j < s_n T ∧ x = nI j ∧ s_sx T j = w := by
  unfold sxB at h
  cases hi : idx (s_n T) x with
  | none => rw [hi] at h; cases h
  | some j =>
    rw [hi] at h
    obtain ⟨a, b⟩ := idx_some h12 hi
    exact ⟨j, a, b, of_decide_eq_true h⟩
theorem ni_m2 {i : Nat} (hi : i < 2147483648) : ¬ nI i = -2 := by
  intro q
  have := congrArg Int32.toInt q
  rw [nI_toInt (by omega)] at this
  have h2 : (-2 : Int32).toInt = -2 := by decide
  rw [h2] at this
  omega
theorem pf_parents {T : tS} {k f m : Int32} (h12 : s_n T ≤ 12) (hk : ¬ (k = 1 ∨ k = 3)) (h : pfB T k f m = true) : ∃ a b, a < s_n T ∧ b < s_n T ∧ s_sx T a = 0 ∧ s_sx T b = 1 ∧ m = nI b ∧ faS T f = a ∧ ((f = nI a ∧ ¬ f = -2) ∨ (f = -2 ∧ lmS T = nI a)) := by
  unfold pfB at h
  rw [if_neg hk, Bool.and_eq_true] at h
  obtain ⟨h1, h2⟩ := h
  obtain ⟨b, hb, rfl, hsb⟩ := sxB_some h12 h2
  unfold fthB at h1
  by_cases hf : f = -2
  · rw [if_pos hf] at h1
    have hne : ¬ lmS T = -1 := by simpa using h1
    rcases ff_spec (P := s_mn T) (s_n T) 0 with ⟨a, -, ha, hp, e⟩ | ⟨e, -⟩
    · have e : lmS T = nI a := e
      refine ⟨a, b, by omega, hb, of_decide_eq_true hp, hsb, rfl, ?_, Or.inr ⟨hf, e⟩⟩
      unfold faS
      rw [if_pos hf, e, nI_clamp (by omega)]
    · exact absurd e hne
  · rw [if_neg hf] at h1
    obtain ⟨a, ha, rfl, hsa⟩ := sxB_some h12 h1
    refine ⟨a, b, ha, hb, hsa, hsb, rfl, ?_, Or.inl ⟨rfl, hf⟩⟩
    unfold faS
    rw [if_neg hf, nI_clamp (by omega)]
theorem al_add {T : tS} {k s f m z : Int32} {i : Nat} : s_al (x_add T k s f m z) i = if i = s_n T then alK (fun _ => k) 0 else s_al T i := by
  show alK (upd (s_kd T) (s_n T) k) i = _
  unfold alK upd
  by_cases h : i = s_n T
  · simp [h]
  · simp [h]; rfl
theorem alK_k {k : Int32} : alK (fun _ => k) 0 = decide (k = 1 ∨ k = 3) := by
  unfold alK
  by_cases h1 : k = 1 <;> by_cases h2 : k = 3 <;> simp [h1, h2]
theorem WF.add {T : tS} {k s f m z : Int32} (hW : WF T) (hk : ¬ kdB k = 0) (hs : s = 0 ∨ s = 1) (hpf : pfB T k f m = true) (hn : s_n T < 12) (hg : ¬ (f = -2 ∧ 3 ≤ cnt (s_gp T) (s_n T))) : WF (x_add T k s f m z) := by
  obtain ⟨w1, w2, w3, w4, w5, w6, w7⟩ := hW
  refine ⟨by show s_n T + 1 ≤ 12; omega, fun i hi => ?_, ?_, w4, w5, w6, fun im him => ⟨Nat.le_succ_of_le (w7 im him).1, (w7 im him).2⟩⟩
  · have hi : i < s_n T + 1 := hi
    rw [al_add]
    show (upd (s_kd T) (s_n T) k i = 0 ∨ upd (s_kd T) (s_n T) k i = 1 ∨ upd (s_kd T) (s_n T) k i = 2 ∨ upd (s_kd T) (s_n T) k i = 3 ∨ upd (s_kd T) (s_n T) k i = 4) ∧ (upd (s_sx T) (s_n T) s i = 0 ∨ upd (s_sx T) (s_n T) s i = 1) ∧ (_ → uq (s_f T) (s_n T) (faS T f) i < i ∧ uq (s_g T) (s_n T) m.toNatClampNeg i < i ∧ upd (s_sx T) (s_n T) s (uq (s_f T) (s_n T) (faS T f) i) = 0 ∧ upd (s_sx T) (s_n T) s (uq (s_g T) (s_n T) m.toNatClampNeg i) = 1) ∧ (uq (s_gp T) (s_n T) (decide (f = -2)) i = true → _) ∧ (upd (s_lv T) (s_n T) 1 i = 0 ∨ upd (s_lv T) (s_n T) 1 i = 1)
    by_cases h : i = s_n T
    · subst h
      rw [pk_us, pk_us, pk_us, uq_s, uq_s, uq_s, if_pos rfl, alK_k]
      refine ⟨kdB_in hk, hs, fun ha => ?_, fun ha => ?_, Or.inr rfl⟩
      · obtain ⟨a, b, ha, hb, hsa, hsb, rfl, e, -⟩ := pf_parents w1 (of_decide_eq_false ha) hpf
        rw [e, nI_clamp (by omega), pk_un (by omega), pk_un (by omega)]
        exact ⟨ha, hb, hsa, hsb⟩
      · apply decide_eq_false
        intro q
        unfold pfB at hpf
        rw [if_pos q] at hpf
        have := of_decide_eq_true ha
        rw [this] at hpf
        simp at hpf
    · obtain ⟨a, b, c, e, g⟩ := w2 i (by omega)
      rw [pk_un h, pk_un h, pk_un h, uq_n h, uq_n h, uq_n h, if_neg h]
      refine ⟨a, b, fun ha => ?_, e, g⟩
      obtain ⟨c1, c2, c3, c4⟩ := c ha
      rw [pk_un (by omega), pk_un (by omega)]
      exact ⟨c1, c2, c3, c4⟩
  · show cnt (uq (s_gp T) (s_n T) (decide (f = -2))) (s_n T + 1) ≤ 3
    rw [cnt_s, uq_s, cnt_congr (Q := s_gp T) (fun j hj => uq_n (by omega))]
    by_cases h : f = -2
    · have : ¬ 3 ≤ cnt (s_gp T) (s_n T) := fun q => hg ⟨h, q⟩
      simp [h]; omega
    · simp [h]; omega
theorem WF.person {T : tS} {k s f m z : Int32} (hW : WF T) : WF (sp_person T k s f m z).2 := by
  unfold sp_person
  split
  · exact hW
  · rename_i h1
    split
    · exact hW
    · rename_i h2
      split
      · exact hW
      · split
        · exact hW
        · rename_i h4
          exact hW.add (fun q => h1 (Or.inl q)) (Classical.byContradiction (fun q => h1 (Or.inr q))) (by simpa using h2) (by have := hW.1; omega) (fun q => h4 (Or.inr q))
theorem gnA_congr {al al' : Nat → Bool} {f f' g g' : Nat → Nat} : ∀ m, (∀ i, i < m → al i = al' i ∧ f i = f' i ∧ g i = g' i) → gnA al f g m = gnA al' f' g' m := by
  intro m
  induction m with
  | zero => intro _; rfl
  | succ m ih =>
    intro h
    obtain ⟨a, b, c⟩ := h m (by omega)
    rw [gnA_s, gnA_s, ih (fun i hi => h i (by omega)), a, b, c]
theorem upA_congr {al al' : Nat → Bool} {f f' g g' : Nat → Nat} : ∀ m, (∀ i, i < m → al i = al' i ∧ f i = f' i ∧ g i = g' i) → upA al f g m = upA al' f' g' m := by
  intro m
  induction m with
  | zero => intro _; rfl
  | succ m ih =>
    intro h
    obtain ⟨a, b, c⟩ := h m (by omega)
    rw [upA_s, upA_s, ih (fun i hi => h i (by omega)), a, b, c]
theorem add_fg {T : tS} {k s f m z : Int32} : ∀ i, i < s_n T → s_al (x_add T k s f m z) i = s_al T i ∧ s_f (x_add T k s f m z) i = s_f T i ∧ s_g (x_add T k s f m z) i = s_g T i := fun i hi => ⟨by rw [al_add, if_neg (by omega)], uq_n (by omega), uq_n (by omega)⟩
theorem gn_add {T : tS} {k s f m z : Int32} {i : Nat} (hi : i < s_n T) : s_gn (x_add T k s f m z) i = s_gn T i := by
  show gnA _ _ _ (s_n T + 1) i = _
  rw [gnA_stable hi (Nat.le_succ _), gnA_congr (s_n T) (add_fg (T := T))]
  rfl
theorem up_add {T : tS} {k s f m z : Int32} {i : Nat} (hi : i < s_n T) : s_up (x_add T k s f m z) i = s_up T i := by
  show upA _ _ _ (s_n T + 1) i = _
  rw [upA_stable hi (Nat.le_succ _), upA_congr (s_n T) (add_fg (T := T))]
  rfl
theorem gn_addn {T : tS} {k s f m z : Int32} : s_gn (x_add T k s f m z) (s_n T) = if k = 1 ∨ k = 3 then 0 else 1 + (if s_gn T (faS T f) < s_gn T m.toNatClampNeg then s_gn T m.toNatClampNeg else s_gn T (faS T f)) := by
  show gnA _ _ _ (s_n T + 1) (s_n T) = _
  rw [gnA_s, gnA_congr (s_n T) (add_fg (T := T))]
  dsimp only
  rw [if_pos rfl, al_add, if_pos rfl, alK_k]
  show (if decide (k = 1 ∨ k = 3) = true then 0 else 1 + (if s_gn T (uq (s_f T) (s_n T) (faS T f) (s_n T)) < s_gn T (uq (s_g T) (s_n T) m.toNatClampNeg (s_n T)) then s_gn T (uq (s_g T) (s_n T) m.toNatClampNeg (s_n T)) else s_gn T (uq (s_f T) (s_n T) (faS T f) (s_n T)))) = _
  rw [uq_s, uq_s]
  by_cases h : k = 1 ∨ k = 3 <;> simp [h]
theorem up_addn {T : tS} {k s f m z : Int32} {j : Nat} : s_up (x_add T k s f m z) (s_n T) j = if j = s_n T then 0 else if k = 1 ∨ k = 3 then -1 else oneM (s_up T (faS T f) j) (s_up T m.toNatClampNeg j) := by
  show upA _ _ _ (s_n T + 1) (s_n T) j = _
  rw [upA_s, upA_congr (s_n T) (add_fg (T := T))]
  dsimp only
  rw [if_pos rfl, al_add, if_pos rfl, alK_k]
  show (if j = s_n T then 0 else if decide (k = 1 ∨ k = 3) = true then -1 else oneM (s_up T (uq (s_f T) (s_n T) (faS T f) (s_n T)) j) (s_up T (uq (s_g T) (s_n T) m.toNatClampNeg (s_n T)) j)) = _
  rw [uq_s, uq_s]
  by_cases h : k = 1 ∨ k = 3 <;> simp [h]
/-- all but the names -/
def RC0 (σ : am_St) (T : tS) : Prop := σ 4 0 = nI (s_n T) ∧ (∀ i, i < s_n T → σ 5 i = s_kd T i ∧ σ 6 i = s_sx T i ∧ σ 7 i = encS (s_al T) (s_f T) i ∧ σ 8 i = encS (s_al T) (s_g T) i ∧ σ 9 i = (if s_gp T i = true then 1 else 0) ∧ σ 10 i = nI (s_gn T i) ∧ σ 11 i = s_tl T i ∧ σ 12 i = s_wr T i ∧ σ 13 i = s_lv T i ∧ ∀ j, j < 12 → σ 14 (i * 12 + j) = s_up T i j) ∧ (∀ j, j < 4 → σ 3 j = s_lw T j) ∧ (σ 1 1 = nI (s_pl T) ∧ ∀ j, j < s_pl T → σ 2 j = s_pg T j) ∧ σ 0 9 = s_lr T ∧ σ 0 10 = nI (s_md T) ∧ (match s_im T with
  | none => σ 38 0 = 0
  | some im => σ 38 0 = 1 ∧ σ 38 1 = nI im.1 ∧ ∀ j, j < im.1 → σ 39 j = im.2.1 j ∧ σ 40 j = im.2.2.1 j ∧ σ 41 j = im.2.2.2 j)
theorem c_nameT {d : Nat} {σ : am_St} {τ : Int64} {T : tS} (hR : RC0 σ T) (hW : WF T) : ∃ σ' : am_St, am_call (d + 4) 77 [.ref 0] σ τ = some (none, σ', τ) ∧ RC σ' T ∧ ∀ c, c ≠ 16 → c ≠ 17 → σ' c = σ c := by
  obtain ⟨r1, r2, r3⟩ := hR
  obtain ⟨σ', g1, g2, g3⟩ := c_nameAll (d := d) (σ := σ) (τ := τ) (n := s_n T) (kd := s_kd T) (tl := s_tl T) (al := s_al T) (f := s_f T) (g := s_g T) (lw := s_lw T) hW.1 r1 (fun i hi => by
    obtain ⟨-, -, e7, e8, -⟩ := r2 i hi
    obtain ⟨-, -, hp, -⟩ := hW.2.1 i hi
    rw [e7, e8]
    unfold encS
    refine ⟨fun ha => by rw [if_pos ha, if_pos ha]; exact ⟨rfl, rfl⟩, fun ha => ?_⟩
    rw [if_neg (by rw [ha]; decide), if_neg (by rw [ha]; decide)]
    exact ⟨rfl, rfl, (hp ha).1, (hp ha).2.1⟩) (fun i hi => ⟨(r2 i hi).1, (r2 i hi).2.2.2.2.2.2.1⟩) r3.1
  refine ⟨σ', g1, ⟨by rw [g2 4 (by decide) (by decide)]; exact r1, fun i hi => ?_, ?_⟩, g2⟩
  · obtain ⟨b1, b2, b3, b4, b5, b6, b7, b8, b9, b11⟩ := r2 i hi
    rw [g2 5 (by decide) (by decide), g2 6 (by decide) (by decide), g2 7 (by decide) (by decide), g2 8 (by decide) (by decide), g2 9 (by decide) (by decide), g2 10 (by decide) (by decide), g2 11 (by decide) (by decide), g2 12 (by decide) (by decide), g2 13 (by decide) (by decide), g2 14 (by decide) (by decide)]
    exact ⟨b1, b2, b3, b4, b5, b6, b7, b8, b9, g3 i hi, b11⟩
  · rw [g2 3 (by decide) (by decide), g2 1 (by decide) (by decide), g2 2 (by decide) (by decide), g2 0 (by decide) (by decide), g2 38 (by decide) (by decide), g2 39 (by decide) (by decide), g2 40 (by decide) (by decide), g2 41 (by decide) (by decide)]
    exact r3
/-- after add, all but the names -/
theorem RC0_add {σ σ' : am_St} {T : tS} {k s f m z : Int32} (hR : RC σ T) (hn : s_n T < 12) (hgp : ∀ i, i < s_n T → s_al T i = false → s_f T i < i ∧ s_g T i < i) (hw : s_al (x_add T k s f m z) (s_n T) = false → faS T f < s_n T ∧ m.toNatClampNeg < s_n T) (a2 : ∀ c, (c < 4 ∨ 14 < c) → σ' c = σ c) (a3 : σ' 4 0 = nI (s_n T + 1)) (a5 : σ' 5 = upd (σ 5) (s_n T) k) (a6 : σ' 6 = upd (σ 6) (s_n T) s) (a7 : σ' 7 = upd (σ 7) (s_n T) (if k = 1 ∨ k = 3 then -1 else nI (faS T f))) (a8 : σ' 8 = upd (σ 8) (s_n T) (if k = 1 ∨ k = 3 then -1 else nI m.toNatClampNeg)) (a9 : σ' 9 = upd (σ 9) (s_n T) (if f = -2 then 1 else 0)) (a10 : σ' 10 = upd (σ 10) (s_n T) (nI (s_gn (x_add T k s f m z) (s_n T)))) (a11 : σ' 11 = upd (σ 11) (s_n T) z) (a12 : σ' 12 = upd (σ 12) (s_n T) (-1)) (a13 : σ' 13 = upd (σ 13) (s_n T) 1) (a14 : ∀ a, σ' 14 a = if s_n T * 12 ≤ a ∧ a < s_n T * 12 + 12 then s_up (x_add T k s f m z) (s_n T) (a - s_n T * 12) else σ 14 a) : RC0 σ' (x_add T k s f m z) := by
  obtain ⟨r1, r2, r3⟩ := hR
  refine ⟨a3, fun i hi => ?_, ?_⟩
  · have hi : i < s_n T + 1 := hi
    show σ' 5 i = upd (s_kd T) (s_n T) k i ∧ σ' 6 i = upd (s_sx T) (s_n T) s i ∧ σ' 7 i = encS (s_al (x_add T k s f m z)) (uq (s_f T) (s_n T) (faS T f)) i ∧ σ' 8 i = encS (s_al (x_add T k s f m z)) (uq (s_g T) (s_n T) m.toNatClampNeg) i ∧ σ' 9 i = (if uq (s_gp T) (s_n T) (decide (f = -2)) i = true then 1 else 0) ∧ σ' 10 i = nI (s_gn (x_add T k s f m z) i) ∧ σ' 11 i = upd (s_tl T) (s_n T) z i ∧ σ' 12 i = upd (s_wr T) (s_n T) (-1) i ∧ σ' 13 i = upd (s_lv T) (s_n T) 1 i ∧ ∀ j, j < 12 → σ' 14 (i * 12 + j) = s_up (x_add T k s f m z) i j
    rw [a5, a6, a7, a8, a9, a10, a11, a12, a13]
    unfold encS
    rw [al_add]
    by_cases h : i = s_n T
    · subst h
      simp only [pk_us, uq_s, if_true, alK_k, decide_eq_true_eq]
      refine ⟨trivial, trivial, trivial, trivial, trivial, trivial, trivial, trivial, trivial, fun j hj => ?_⟩
      rw [a14, if_pos (by omega), show s_n T * 12 + j - s_n T * 12 = j by omega]
    · obtain ⟨b1, b2, b3, b4, b5, b6, b7, b8, b9, b10, b11⟩ := r2 i (by omega)
      simp only [pk_un h, uq_n h, if_neg h]
      refine ⟨b1, b2, b3, b4, b5, by rw [gn_add (by omega)]; exact b6, b7, b8, b9, fun j hj => ?_⟩
      rw [a14, if_neg (by omega), up_add (by omega)]
      exact b11 j hj
  · rw [a2 3 (by omega), a2 1 (by omega), a2 2 (by omega), a2 0 (by omega), a2 38 (by omega), a2 39 (by omega), a2 40 (by omega), a2 41 (by omega)]
    exact r3
