/-! what a state IS: the people, the law, the page, what was counted, the image -/
abbrev pS : Type := Nat × (Nat → Int32) × (Nat → Int32) × (Nat → Nat) × (Nat → Nat) × (Nat → Bool) × (Nat → Int32) × (Nat → Int32) × (Nat → Int32)
abbrev iS : Type := Nat × (Nat → Int32) × (Nat → Int32) × (Nat → Int32)
abbrev tS : Type := pS × (Nat → Int32) × (Nat × (Nat → Int32)) × Int32 × Nat × Option iS
def s_n (T : tS) : Nat := T.1.1
def s_kd (T : tS) : Nat → Int32 := T.1.2.1
def s_sx (T : tS) : Nat → Int32 := T.1.2.2.1
def s_f (T : tS) : Nat → Nat := T.1.2.2.2.1
def s_g (T : tS) : Nat → Nat := T.1.2.2.2.2.1
def s_gp (T : tS) : Nat → Bool := T.1.2.2.2.2.2.1
def s_tl (T : tS) : Nat → Int32 := T.1.2.2.2.2.2.2.1
def s_wr (T : tS) : Nat → Int32 := T.1.2.2.2.2.2.2.2.1
def s_lv (T : tS) : Nat → Int32 := T.1.2.2.2.2.2.2.2.2
def s_lw (T : tS) : Nat → Int32 := T.2.1
def s_pl (T : tS) : Nat := T.2.2.1.1
def s_pg (T : tS) : Nat → Int32 := T.2.2.1.2
def s_lr (T : tS) : Int32 := T.2.2.2.1
def s_md (T : tS) : Nat := T.2.2.2.2.1
def s_im (T : tS) : Option iS := T.2.2.2.2.2
/-- who has no parents -/
def alK (kd : Nat → Int32) (i : Nat) : Bool := decide (kd i = 1) || decide (kd i = 3)
def s_al (T : tS) : Nat → Bool := alK (s_kd T)
def s_mn (T : tS) (i : Nat) : Bool := decide (s_sx T i = 0)
def s_nm (T : tS) : Nat → Int32 := nmS (s_kd T) (s_tl T) (s_al T) (s_f T) (s_g T) (s_lw T) (s_n T)
/-- the generations -/
def gnA (al : Nat → Bool) (f g : Nat → Nat) : Nat → Nat → Nat
  | 0 => fun _ => 0
  | i + 1 => fun j => if j = i then (if al i = true then 0 else 1 + (if gnA al f g i (f i) < gnA al f g i (g i) then gnA al f g i (g i) else gnA al f g i (f i))) else gnA al f g i j
theorem gnA_s (al : Nat → Bool) (f g : Nat → Nat) (i : Nat) : gnA al f g (i + 1) = fun j => if j = i then (if al i = true then 0 else 1 + (if gnA al f g i (f i) < gnA al f g i (g i) then gnA al f g i (g i) else gnA al f g i (f i))) else gnA al f g i j := rfl
/-- the steps up -/
def upA (al : Nat → Bool) (f g : Nat → Nat) : Nat → Nat → Nat → Int32
  | 0 => fun _ _ => -1
  | i + 1 => fun a j => if a = i then (if j = i then 0 else if al i = true then -1 else oneM (upA al f g i (f i) j) (upA al f g i (g i) j)) else upA al f g i a j
theorem upA_s (al : Nat → Bool) (f g : Nat → Nat) (i : Nat) : upA al f g (i + 1) = fun a j => if a = i then (if j = i then 0 else if al i = true then -1 else oneM (upA al f g i (f i) j) (upA al f g i (g i) j)) else upA al f g i a j := rfl
def s_gn (T : tS) : Nat → Nat := gnA (s_al T) (s_f T) (s_g T) (s_n T)
def s_up (T : tS) : Nat → Nat → Int32 := upA (s_al T) (s_f T) (s_g T) (s_n T)
def s_ds (T : tS) (a b : Nat) : Int32 := dstF (s_up T a) (s_up T b) (s_n T)
theorem gnA_le (al : Nat → Bool) (f g : Nat → Nat) : ∀ m j, gnA al f g m j ≤ m := by
  intro m
  induction m with
  | zero => intro j; exact Nat.le_refl 0
  | succ m ih =>
    intro j
    rw [gnA_s]
    dsimp only
    have h1 := ih (f m)
    have h2 := ih (g m)
    have h3 := ih j
    split
    · split
      · omega
      · split <;> omega
    · omega
theorem gnA_stable {al : Nat → Bool} {f g : Nat → Nat} {i m n : Nat} (hi : i < m) (hm : m ≤ n) : gnA al f g n i = gnA al f g m i := by
  induction hm with
  | refl => rfl
  | step hk ih => rw [gnA_s]; dsimp only; rw [if_neg (Nat.ne_of_lt (Nat.lt_of_lt_of_le hi hk)), ih]
theorem upA_stable {al : Nat → Bool} {f g : Nat → Nat} {i m n : Nat} (hi : i < m) (hm : m ≤ n) : upA al f g n i = upA al f g m i := by
  induction hm with
  | refl => rfl
  | step hk ih => rw [upA_s]; funext j; dsimp only; rw [if_neg (Nat.ne_of_lt (Nat.lt_of_lt_of_le hi hk)), ih]
def in03 (x : Int32) : Prop := x = 0 ∨ x = 1 ∨ x = 2 ∨ x = 3
/-- a state as it may be -/
def WF (T : tS) : Prop := s_n T ≤ 12 ∧ (∀ i, i < s_n T → (s_kd T i = 0 ∨ s_kd T i = 1 ∨ s_kd T i = 2 ∨ s_kd T i = 3 ∨ s_kd T i = 4) ∧ (s_sx T i = 0 ∨ s_sx T i = 1) ∧ (s_al T i = false → s_f T i < i ∧ s_g T i < i ∧ s_sx T (s_f T i) = 0 ∧ s_sx T (s_g T i) = 1) ∧ (s_gp T i = true → s_al T i = false) ∧ (s_lv T i = 0 ∨ s_lv T i = 1)) ∧ cnt (s_gp T) (s_n T) ≤ 3 ∧ (in03 (s_lw T 0) ∧ in03 (s_lw T 3) ∧ (0 < s_lw T 1 → in03 (s_lw T 2))) ∧ s_pl T ≤ 16 ∧ s_md T ≤ 40 ∧ ∀ im, s_im T = some im → im.1 ≤ s_n T ∧ ∀ j, j < im.1 → im.2.2.2 j = 0 ∨ im.2.2.2 j = 1
/-- the class's cells hold a state -/
def RC (σ : am_St) (T : tS) : Prop := σ 4 0 = nI (s_n T) ∧ (∀ i, i < s_n T → σ 5 i = s_kd T i ∧ σ 6 i = s_sx T i ∧ σ 7 i = encS (s_al T) (s_f T) i ∧ σ 8 i = encS (s_al T) (s_g T) i ∧ σ 9 i = (if s_gp T i = true then 1 else 0) ∧ σ 10 i = nI (s_gn T i) ∧ σ 11 i = s_tl T i ∧ σ 12 i = s_wr T i ∧ σ 13 i = s_lv T i ∧ σ 16 i = s_nm T i ∧ ∀ j, j < 12 → σ 14 (i * 12 + j) = s_up T i j) ∧ (∀ j, j < 4 → σ 3 j = s_lw T j) ∧ (σ 1 1 = nI (s_pl T) ∧ ∀ j, j < s_pl T → σ 2 j = s_pg T j) ∧ σ 0 9 = s_lr T ∧ σ 0 10 = nI (s_md T) ∧ (match s_im T with
  | none => σ 38 0 = 0
  | some im => σ 38 0 = 1 ∧ σ 38 1 = nI im.1 ∧ ∀ j, j < im.1 → σ 39 j = im.2.1 j ∧ σ 40 j = im.2.2.1 j ∧ σ 41 j = im.2.2.2 j)
theorem RC.keep {σ σ' : am_St} {T : tS} (h : RC σ T) (hk : ∀ c, (c ≤ 14 ∨ c = 16 ∨ (38 ≤ c ∧ c ≤ 41)) → σ' c = σ c) : RC σ' T := by
  obtain ⟨h1, h2, h3, h4, h5, h6, h7⟩ := h
  unfold RC
  rw [hk 4 (by omega), hk 5 (by omega), hk 6 (by omega), hk 7 (by omega), hk 8 (by omega), hk 9 (by omega), hk 10 (by omega), hk 11 (by omega), hk 12 (by omega), hk 13 (by omega), hk 16 (by omega), hk 14 (by omega), hk 3 (by omega), hk 1 (by omega), hk 2 (by omega), hk 0 (by omega), hk 38 (by omega), hk 39 (by omega), hk 40 (by omega), hk 41 (by omega)]
  exact ⟨h1, h2, h3, h4, h5, h6, h7⟩
theorem RC.ph {σ : am_St} {T : tS} (h : RC σ T) (hw : WF T) : PH (s_n T) (s_al T) (s_f T) (s_g T) (σ 7) (σ 8) := by
  intro i hi
  obtain ⟨-, -, e7, e8, -⟩ := h.2.1 i hi
  obtain ⟨-, -, hp, -⟩ := hw.2.1 i hi
  rw [e7, e8]
  unfold encS
  refine ⟨fun ha => by rw [if_pos ha, if_pos ha]; exact ⟨rfl, rfl⟩, fun ha => ?_⟩
  rw [if_neg (by rw [ha]; decide), if_neg (by rw [ha]; decide)]
  exact ⟨rfl, rfl, (hp ha).1, (hp ha).2.1⟩
/-- the names are given anew -/
theorem c_nameAll {d : Nat} {σ : am_St} {τ : Int64} {n : Nat} {kd tl : Nat → Int32} {al : Nat → Bool} {f g : Nat → Nat} {lw : Nat → Int32} (h12 : n ≤ 12) (hn : σ 4 0 = nI n) (hP : PH n al f g (σ 7) (σ 8)) (hkt : ∀ j, j < n → σ 5 j = kd j ∧ σ 11 j = tl j) (hlw : ∀ j, j < 4 → σ 3 j = lw j) : ∃ σ' : am_St, am_call (d + 4) 77 [.ref 0] σ τ = some (none, σ', τ) ∧ (∀ c, c ≠ 16 → c ≠ 17 → σ' c = σ c) ∧ ∀ j, j < n → σ' 16 j = nmS kd tl al f g lw n j := by
  obtain ⟨σ', g1, g2, g3⟩ := c_give (d := d) (σ := σ) (τ := τ) (n := n) (kd := kd) (tl := tl) (al := al) (f := f) (g := g) (lw := lw) NO_15 (fc := 7) (tc := 11) (lc := 3) rfl rfl rfl h12 (by intro c h; omega) hn hP hkt hlw
  refine ⟨σ', ?_, g2, g3⟩
  show am_run (d + 4) 77 0 [.ref 0] [] σ τ = _
  simp (disch := first | assumption | omega | rfl | exact Nat.le_of_ble_eq_true rfl | decide) only [r77_0, r77_1, r77_4, r77_5, r77_8, r77_11, r77_12, r77_15, r77_18, r77_19, r77_22, r77_25, am_gf_4_3, am_gf_4_7, am_gf_0_1, am_gf_0_2, am_gf_0_3, am_ai_7, am_ai_11, am_nl_i, am_nl_r, am_nl_n, am_nl_l, Option.bind_some, Option.toList_some, Option.toList_none, List.cons_append, List.nil_append, if_true, if_false, Bool.false_eq_true, Int.reduceEq, Int.reduceAdd, ↓reduceIte, g1]
