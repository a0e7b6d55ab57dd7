/-! ways by two countings: all numbers as digits, all men as digits -/
def dgN (b : Nat → Nat) (c k : Nat) : Nat := c / prF b k % b k
theorem prF_pos {b : Nat → Nat} {k : Nat} (h : ∀ j, j < k → 0 < b j) : 0 < prF b k := by
  induction k with
  | zero => exact Nat.one_pos
  | succ k ih => rw [prF_s]; exact Nat.mul_pos (ih (fun j hj => h j (by omega))) (h k (by omega))
theorem dg_low {b : Nat → Nat} {k G c r : Nat} (hk : k < G) (hp : ∀ j, j < G → 0 < b j) : dgN b (c + prF b G * r) k = dgN b c k := by
  unfold dgN
  have : ∃ m, prF b G = prF b k * (b k * m) := by
    clear hp
    induction G with
    | zero => omega
    | succ G ih =>
      rcases Nat.lt_or_ge k G with h | h
      · obtain ⟨m, hm⟩ := ih h
        exact ⟨m * b G, by rw [prF_s, hm, Nat.mul_assoc, Nat.mul_assoc]⟩
      · have e : k = G := by omega
        subst e
        exact ⟨1, by rw [prF_s, Nat.mul_one]⟩
  obtain ⟨m, hm⟩ := this
  have h0 : 0 < prF b k := prF_pos (fun j hj => hp j (by omega))
  rw [hm, Nat.mul_assoc, Nat.add_mul_div_left _ _ h0, Nat.mul_assoc, Nat.add_mul_mod_self_left]
theorem mix_ex {b : Nat → Nat} : ∀ G (r : Nat → Nat), (∀ k, k < G → r k < b k) → ∃ c, c < prF b G ∧ ∀ k, k < G → dgN b c k = r k := by
  intro G
  induction G with
  | zero => intro r _; exact ⟨0, Nat.one_pos, fun k hk => absurd hk (Nat.not_lt_zero k)⟩
  | succ G ih =>
    intro r h
    obtain ⟨c, hc, hd⟩ := ih r (fun k hk => h k (by omega))
    have hp : ∀ j, j < G + 1 → 0 < b j := fun j hj => Nat.lt_of_le_of_lt (Nat.zero_le _) (h j hj)
    have hr := h G (by omega)
    refine ⟨c + prF b G * r G, ?_, fun k hk => ?_⟩
    · rw [prF_s]
      have : prF b G * r G + prF b G ≤ prF b G * b G := by
        rw [← Nat.mul_succ]
        exact Nat.mul_le_mul_left _ hr
      omega
    · rcases Nat.lt_or_ge k G with h2 | h2
      · rw [dg_low h2 (fun j hj => hp j (by omega))]; exact hd k h2
      · have e : k = G := by omega
        subst e
        unfold dgN
        have h0 : 0 < prF b k := prF_pos (fun j hj => hp j (by omega))
        rw [Nat.add_mul_div_left _ _ h0, Nat.div_eq_of_lt hc, Nat.zero_add, Nat.mod_eq_of_lt hr]
theorem mix_inj {b : Nat → Nat} : ∀ G c c', c < prF b G → c' < prF b G → (∀ k, k < G → dgN b c k = dgN b c' k) → c = c' := by
  intro G
  induction G with
  | zero =>
    intro c c' h h' _
    have h : c < 1 := h
    have h' : c' < 1 := h'
    omega
  | succ G ih =>
    intro c c' h h' hd
    rw [prF_s] at h h'
    have h0 : 0 < prF b G := by
      rcases Nat.eq_zero_or_pos (prF b G) with e | e
      · rw [e, Nat.zero_mul] at h; omega
      · exact e
    have e1 : c % prF b G = c' % prF b G := by
      apply ih _ _ (Nat.mod_lt _ h0) (Nat.mod_lt _ h0)
      intro k hk
      have hp : ∀ j, j < G → 0 < b j := by
        intro j hj
        rcases Nat.eq_zero_or_pos (b j) with e | e
        · exfalso
          have : prF b G = 0 := by
            clear ih h h' hd h0 hk
            induction G with
            | zero => omega
            | succ G ihG =>
              rw [prF_s]
              rcases Nat.lt_or_ge j G with q | q
              · rw [ihG q, Nat.zero_mul]
              · have : j = G := by omega
                subst this
                rw [e, Nat.mul_zero]
          omega
        · exact e
      have s1 := dg_low (c := c % prF b G) (r := c / prF b G) hk hp
      have s2 := dg_low (c := c' % prF b G) (r := c' / prF b G) hk hp
      rw [Nat.mod_add_div] at s1 s2
      rw [← s1, ← s2]
      exact hd k (by omega)
    have q1 : c / prF b G < b G := Nat.div_lt_of_lt_mul h
    have q2 : c' / prF b G < b G := Nat.div_lt_of_lt_mul h'
    have e2 := hd G (by omega)
    unfold dgN at e2
    rw [Nat.mod_eq_of_lt q1, Nat.mod_eq_of_lt q2] at e2
    rw [← Nat.mod_add_div c (prF b G), ← Nat.mod_add_div c' (prF b G), e1, e2]
theorem cnt_ext {P : Nat → Bool} {n N : Nat} (h : n ≤ N) : cnt (fun i => decide (i < n) && P i) N = cnt P n := by
  induction h with
  | refl => exact cnt_congr (fun j hj => by rw [decide_eq_true hj, Bool.true_and])
  | step hk ih =>
    rw [cnt_s, ih, decide_eq_false (Nat.not_lt.mpr hk), Bool.false_and]
    rfl
theorem cnt_rel {P Q : Nat → Bool} {n m : Nat} (R : Nat → Nat → Prop) (h1 : ∀ i, i < n → P i = true → ∃ j, j < m ∧ Q j = true ∧ R i j) (h2 : ∀ i i' j, i < n → i' < n → P i = true → P i' = true → R i j → R i' j → i = i') : cnt P n ≤ cnt Q m := by
  have hc : ∀ i, ∃ j, i < n → P i = true → j < m ∧ Q j = true ∧ R i j := fun i => by
    by_cases hi : i < n
    · by_cases hp : P i = true
      · obtain ⟨j, hj⟩ := h1 i hi hp
        exact ⟨j, fun _ _ => hj⟩
      · exact ⟨0, fun _ q => absurd q hp⟩
    · exact ⟨0, fun q => absurd q hi⟩
  have key := cnt_inj (P := fun i => decide (i < n) && P i) (Q := fun j => decide (j < m) && Q j) (n := n + m) (fun i => Classical.choose (hc i)) (fun i _ hp => by
    rw [Bool.and_eq_true, decide_eq_true_eq] at hp
    obtain ⟨a, b, -⟩ := Classical.choose_spec (hc i) hp.1 hp.2
    exact ⟨by omega, by rw [decide_eq_true a, b]; rfl⟩) (fun i i' _ _ hp hp' e => by
    rw [Bool.and_eq_true, decide_eq_true_eq] at hp hp'
    obtain ⟨-, -, c1⟩ := Classical.choose_spec (hc i) hp.1 hp.2
    obtain ⟨-, -, c2⟩ := Classical.choose_spec (hc i') hp'.1 hp'.2
    have e : Classical.choose (hc i) = Classical.choose (hc i') := e
    rw [← e] at c2
    exact h2 i i' _ hp.1 hp'.1 hp.2 hp'.2 c1 c2)
  rw [cnt_ext (by omega), cnt_ext (by omega)] at key
  exact key
/-- digits of twelve, one for each gap -/
def b12 : Nat → Nat := fun _ => 12
/-- the fathers that a code of the reference tells -/
def fdS (gp : Nat → Bool) (f : Nat → Nat) (c i : Nat) : Nat := if gp i = true then dgN b12 c (cnt gp i) else f i
def okF (gp mn : Nat → Bool) (n c : Nat) : Nat → Bool
  | 0 => true
  | k + 1 => okF gp mn n c k && (decide (dgN b12 c k < selP gp k n) && mn (dgN b12 c k))
theorem okF_s (gp mn : Nat → Bool) (n c k : Nat) : okF gp mn n c (k + 1) = (okF gp mn n c k && (decide (dgN b12 c k < selP gp k n) && mn (dgN b12 c k))) := rfl
theorem okF_iff {gp mn : Nat → Bool} {n c : Nat} : ∀ G, okF gp mn n c G = true ↔ ∀ k, k < G → dgN b12 c k < selP gp k n ∧ mn (dgN b12 c k) = true := by
  intro G
  induction G with
  | zero => exact ⟨fun _ k hk => absurd hk (Nat.not_lt_zero k), fun _ => rfl⟩
  | succ G ih =>
    rw [okF_s, Bool.and_eq_true, Bool.and_eq_true, decide_eq_true_eq, ih]
    constructor
    · intro h k hk
      by_cases e : k = G
      · subst e; exact h.2
      · exact h.1 k (by omega)
    · intro h
      exact ⟨fun k hk => h k (by omega), h G (by omega)⟩
theorem nrA_congr2 {n : Nat} {kd tl : Nat → Int32} {al : Nat → Bool} {f f' g : Nat → Nat} {lw : Nat → Int32} (h : ∀ i, i < n → f i = f' i) : ∀ m, m ≤ n → nrA kd tl al f g lw m = nrA kd tl al f' g lw m := by
  intro m
  induction m with
  | zero => intro _; rfl
  | succ m ih =>
    intro hm
    have e1 : npS (nrA kd tl al f' g lw m).1 (nrA kd tl al f' g lw m).2 kd al f g lw m = npS (nrA kd tl al f' g lw m).1 (nrA kd tl al f' g lw m).2 kd al f' g lw m := by
      unfold npS tkS rlS
      rw [h m (by omega), anyB_congr (P := fun k => !al k && decide (f k = f' m) && decide ((nrA kd tl al f' g lw m).1 k = (nrA kd tl al f' g lw m).1 (f' m))) (Q := fun k => !al k && decide (f' k = f' m) && decide ((nrA kd tl al f' g lw m).1 k = (nrA kd tl al f' g lw m).1 (f' m))) (fun j hj => by rw [h j (by omega)])]
    rw [nrA_s, nrA_s, ih (by omega), e1, h m (by omega)]
theorem nmS_congr2 {n : Nat} {kd tl : Nat → Int32} {al : Nat → Bool} {f f' g : Nat → Nat} {lw : Nat → Int32} (h : ∀ i, i < n → f i = f' i) : nmS kd tl al f g lw n = nmS kd tl al f' g lw n := by
  unfold nmS
  rw [nrA_congr2 h n (Nat.le_refl n)]
/-- a way, as the reference counts -/
def wdB (T : tS) (c : Nat) : Bool := okF (s_gp T) (s_mn T) (s_n T) c (cnt (s_gp T) (s_n T)) && decide (cnt (wrB (nmS (s_kd T) (s_tl T) (s_al T) (fdS (s_gp T) (s_f T) c) (s_g T) (s_lw T) (s_n T)) (s_wr T)) (s_n T) = 0)
/-- the two codes tell the same fathers -/
def sameC (T : tS) (c c' : Nat) : Prop := ∀ k, k < cnt (s_gp T) (s_n T) → dgN b12 c k = mnS (s_gp T) (s_mn T) (s_n T) c' k
theorem same_f {T : tS} {c c' : Nat} (h : sameC T c c') : ∀ i, i < s_n T → fdS (s_gp T) (s_f T) c i = fcS (s_gp T) (s_mn T) (s_f T) (s_n T) c' i := by
  intro i hi
  unfold fdS fcS
  cases hg : s_gp T i with
  | true =>
    rw [if_pos rfl, if_pos rfl]
    exact h _ (cnt_lt hi hg)
  | false => rfl
theorem same_w {T : tS} {c c' : Nat} (hW : WF T) (h : sameC T c c') (hok : okF (s_gp T) (s_mn T) (s_n T) c (cnt (s_gp T) (s_n T)) = true) : wdB T c = s_wy T c' := by
  unfold wdB s_wy wyB
  rw [hok, Bool.true_and, nmS_congr2 (same_f h)]
  simp only [cnt0_ff hW.1]
theorem ways_to {T : tS} (hW : WF T) {c : Nat} (hok : okF (s_gp T) (s_mn T) (s_n T) c (cnt (s_gp T) (s_n T)) = true) : ∃ c', c' < s_T T ∧ sameC T c c' := by
  rw [okF_iff] at hok
  obtain ⟨c', h1, h2⟩ := mix_ex (b := bsS (s_gp T) (s_mn T) (s_n T)) (cnt (s_gp T) (s_n T)) (fun k => cnt (s_mn T) (dgN b12 c k)) (fun k hk => by
    obtain ⟨q1, q2⟩ := hok k hk
    exact cnt_lt q1 q2)
  refine ⟨c', h1, fun k hk => ?_⟩
  obtain ⟨q1, q2⟩ := hok k hk
  have := h2 k hk
  unfold dgN at this
  unfold mnS
  rw [this]
  exact (selP_at (Nat.lt_trans q1 (selP_ok hk).1) q2).symm
theorem ways_from {T : tS} (hW : WF T) {c' : Nat} : ∃ c, c < prF b12 (cnt (s_gp T) (s_n T)) ∧ sameC T c c' ∧ okF (s_gp T) (s_mn T) (s_n T) c (cnt (s_gp T) (s_n T)) = true := by
  have h12 := hW.1
  have key : ∀ k, k < cnt (s_gp T) (s_n T) → mnS (s_gp T) (s_mn T) (s_n T) c' k < selP (s_gp T) k (s_n T) ∧ s_mn T (mnS (s_gp T) (s_mn T) (s_n T) c' k) = true := by
    intro k hk
    obtain ⟨o1, o2, o3⟩ := selP_ok hk
    have hb : 0 < bsS (s_gp T) (s_mn T) (s_n T) k := hW.pos _ o1 o2
    have hr := Nat.mod_lt (c' / prF (bsS (s_gp T) (s_mn T) (s_n T)) k) hb
    have hr2 : c' / prF (bsS (s_gp T) (s_mn T) (s_n T)) k % bsS (s_gp T) (s_mn T) (s_n T) k < cnt (s_mn T) (s_n T) := Nat.lt_of_lt_of_le hr (cnt_mono _ (Nat.le_of_lt o1))
    obtain ⟨p1, p2, p3⟩ := selP_ok hr2
    unfold mnS
    refine ⟨?_, p2⟩
    rcases Nat.lt_or_ge (selP (s_mn T) (c' / prF (bsS (s_gp T) (s_mn T) (s_n T)) k % bsS (s_gp T) (s_mn T) (s_n T) k) (s_n T)) (selP (s_gp T) k (s_n T)) with h | h
    · exact h
    · have := cnt_mono (s_mn T) h
      rw [p3] at this
      exact absurd hr (Nat.not_lt.mpr this)
  obtain ⟨c, h1, h2⟩ := mix_ex (b := b12) (cnt (s_gp T) (s_n T)) (fun k => mnS (s_gp T) (s_mn T) (s_n T) c' k) (fun k hk => by
    have := (key k hk).1
    have := (selP_ok hk).1
    show _ < 12
    omega)
  refine ⟨c, h1, h2, ?_⟩
  rw [okF_iff]
  intro k hk
  rw [h2 k hk]
  exact key k hk
theorem dg_lt {b : Nat → Nat} {c k : Nat} (h : 0 < b k) : dgN b c k < b k := Nat.mod_lt _ h
theorem ways_eq {T : tS} (hW : WF T) : cnt (wdB T) (prF b12 (cnt (s_gp T) (s_n T))) = s_ways T := by
  apply Nat.le_antisymm
  · apply cnt_rel (sameC T)
    · intro c hc hp
      have hok : okF (s_gp T) (s_mn T) (s_n T) c (cnt (s_gp T) (s_n T)) = true := by
        unfold wdB at hp
        rw [Bool.and_eq_true] at hp
        exact hp.1
      obtain ⟨c', h1, h2⟩ := ways_to hW hok
      exact ⟨c', h1, by rw [← same_w hW h2 hok]; exact hp, h2⟩
    · intro c1 c2 c' h1 h2 _ _ s1 s2
      exact mix_inj _ _ _ h1 h2 (fun k hk => by rw [s1 k hk, s2 k hk])
  · apply cnt_rel (fun c' c => sameC T c c')
    · intro c' hc hp
      obtain ⟨c, h1, h2, hok⟩ := ways_from hW (c' := c')
      exact ⟨c, h1, by rw [same_w hW h2 hok]; exact hp, h2⟩
    · intro c1 c2 c h1 h2 _ _ s1 s2
      apply mix_inj (b := bsS (s_gp T) (s_mn T) (s_n T)) _ _ _ h1 h2
      intro k hk
      have hs : mnS (s_gp T) (s_mn T) (s_n T) c1 k = mnS (s_gp T) (s_mn T) (s_n T) c2 k := by rw [← s1 k hk, ← s2 k hk]
      obtain ⟨o1, o2, o3⟩ := selP_ok hk
      have hb : 0 < bsS (s_gp T) (s_mn T) (s_n T) k := hW.pos _ o1 o2
      have hr : ∀ c, c / prF (bsS (s_gp T) (s_mn T) (s_n T)) k % bsS (s_gp T) (s_mn T) (s_n T) k < cnt (s_mn T) (s_n T) := fun c => Nat.lt_of_lt_of_le (Nat.mod_lt _ hb) (cnt_mono _ (Nat.le_of_lt o1))
      have e1 := (selP_ok (hr c1)).2.2
      have e2 := (selP_ok (hr c2)).2.2
      unfold mnS at hs
      rw [hs] at e1
      exact e1.symm.trans e2
theorem crF_spec {B : Nat → Bool} {x : Nat → Int32} (hx : ∀ c, ¬ x c = -1) : ∀ m, ((∀ c, c < m → B c = false) ∧ crF B x m = -1) ∨ (∃ c, c < m ∧ B c = true ∧ crF B x m = x c ∧ ∀ c', c' < m → B c' = true → x c' = x c) ∨ ((∃ c c', c < m ∧ c' < m ∧ B c = true ∧ B c' = true ∧ ¬ x c = x c') ∧ crF B x m = -1) := by
  intro m
  induction m with
  | zero => exact Or.inl ⟨fun c hc => absurd hc (Nat.not_lt_zero c), rfl⟩
  | succ m ih =>
    rw [crF_s]
    cases hB : B m with
    | false =>
      rw [if_neg (by decide)]
      rcases ih with ⟨a, b⟩ | ⟨c, c1, c2, c3, c4⟩ | ⟨⟨c, c', d1, d2, d3, d4, d5⟩, e⟩
      · refine Or.inl ⟨fun c hc => ?_, b⟩
        by_cases e : c = m
        · subst e; exact hB
        · exact a c (by omega)
      · refine Or.inr (Or.inl ⟨c, by omega, c2, c3, fun c' hc' hb' => ?_⟩)
        by_cases e : c' = m
        · subst e; rw [hB] at hb'; cases hb'
        · exact c4 c' (by omega) hb'
      · exact Or.inr (Or.inr ⟨⟨c, c', by omega, by omega, d3, d4, d5⟩, e⟩)
    | true =>
      rw [if_pos rfl]
      rcases ih with ⟨a, b⟩ | ⟨c, c1, c2, c3, c4⟩ | ⟨⟨c, c', d1, d2, d3, d4, d5⟩, e⟩
      · rw [if_pos (cnt_zero a)]
        refine Or.inr (Or.inl ⟨m, by omega, hB, rfl, fun c' hc' hb' => ?_⟩)
        by_cases e : c' = m
        · rw [e]
        · rw [a c' (by omega)] at hb'; cases hb'
      · have hne : ¬ cnt B m = 0 := by have := cnt_lt c1 c2; omega
        rw [if_neg hne]
        by_cases he : crF B x m = x m
        · rw [if_pos he]
          refine Or.inr (Or.inl ⟨c, by omega, c2, c3, fun c' hc' hb' => ?_⟩)
          by_cases e : c' = m
          · rw [e, ← he, c3]
          · exact c4 c' (by omega) hb'
        · rw [if_neg he]
          rw [c3] at he
          exact Or.inr (Or.inr ⟨⟨c, m, by omega, by omega, c2, hB, he⟩, rfl⟩)
      · have hne : ¬ cnt B m = 0 := by have := cnt_lt d1 d3; omega
        rw [if_neg hne, e, if_neg (fun q => hx m q.symm)]
        exact Or.inr (Or.inr ⟨⟨c, c', by omega, by omega, d3, d4, d5⟩, rfl⟩)
theorem crF_m1 {B : Nat → Bool} : ∀ m, crF B (fun _ => -1) m = -1 := by
  intro m
  induction m with
  | zero => rfl
  | succ m ih =>
    rw [crF_s, ih]
    repeat' split
    all_goals rfl
/-- who may be the father, as bits -/
def mbB (T : tS) (c p x : Nat) : Bool := anyB (fun c => wdB T c && (!s_al T p && decide (fdS (s_gp T) (s_f T) c p = x))) c
theorem sure_eq {T : tS} (hW : WF T) {p : Nat} {P : Nat → Bool} (hp : p < s_n T) (hP : ∀ k, k < s_n T → (P k = true ↔ ∀ x, x < 32 → mbB T (prF b12 (cnt (s_gp T) (s_n T))) p x = decide (x = k))) : ff P (s_n T) 0 = s_sure T p := by
  have h12 := hW.1
  unfold s_sure
  cases hal : s_al T p with
  | true =>
    have e1 : (fun c => encS (s_al T) (fcS (s_gp T) (s_mn T) (s_f T) (s_n T) c) p) = fun _ => -1 := by
      funext c
      unfold encS
      rw [if_pos hal]
    rw [e1, crF_m1]
    rcases ff_spec (P := P) (s_n T) 0 with ⟨i, -, h2, h3, h4⟩ | ⟨h1, -⟩
    · exfalso
      have := (hP i (by omega)).mp h3 i (by omega)
      rw [decide_eq_true rfl] at this
      unfold mbB at this
      rw [anyB_ex] at this
      obtain ⟨c, -, hc⟩ := this
      rw [hal, Bool.not_true, Bool.false_and, Bool.and_false] at hc
      cases hc
    · exact h1
  | false =>
    have hna : ¬ s_al T p = true := by rw [hal]; decide
    have e1 : (fun c => encS (s_al T) (fcS (s_gp T) (s_mn T) (s_f T) (s_n T) c) p) = fun c => nI (fcS (s_gp T) (s_mn T) (s_f T) (s_n T) c p) := by
      funext c
      unfold encS
      rw [if_neg hna]
    rw [e1]
    -- the fathers in all ways are below p
    have hlt : ∀ c, fcS (s_gp T) (s_mn T) (s_f T) (s_n T) c p < p := by
      intro c
      unfold fcS
      cases hg : s_gp T p with
      | true =>
        rw [if_pos rfl]
        obtain ⟨c0, -, hs, hok⟩ := ways_from hW (c' := c)
        rw [okF_iff] at hok
        have hk := cnt_lt hp hg
        have := (hok _ hk).1
        rw [hs _ hk, selP_at hp hg] at this
        exact this
      | false =>
        rw [if_neg (by decide)]
        exact (hW.pS p hp hal).1
    have mb : ∀ x, mbB T (prF b12 (cnt (s_gp T) (s_n T))) p x = true ↔ ∃ c', c' < s_T T ∧ s_wy T c' = true ∧ fcS (s_gp T) (s_mn T) (s_f T) (s_n T) c' p = x := by
      intro x
      unfold mbB
      rw [anyB_ex]
      constructor
      · rintro ⟨c, hc, h⟩
        rw [Bool.and_eq_true, Bool.and_eq_true, decide_eq_true_eq] at h
        obtain ⟨h1, -, h3⟩ := h
        have hok : okF (s_gp T) (s_mn T) (s_n T) c (cnt (s_gp T) (s_n T)) = true := by
          have := h1
          unfold wdB at this
          rw [Bool.and_eq_true] at this
          exact this.1
        obtain ⟨c', q1, q2⟩ := ways_to hW hok
        exact ⟨c', q1, by rw [← same_w hW q2 hok]; exact h1, by rw [← same_f q2 p hp]; exact h3⟩
      · rintro ⟨c', h1, h2, h3⟩
        obtain ⟨c, q1, q2, hok⟩ := ways_from hW (c' := c')
        refine ⟨c, q1, ?_⟩
        rw [same_w hW q2 hok, h2, hal, same_f q2 p hp, decide_eq_true h3]
        rfl
    have hne : ∀ c, ¬ nI (fcS (s_gp T) (s_mn T) (s_f T) (s_n T) c p) = -1 := fun c => am_nm1 (by have := hlt c; omega)
    rcases ff_spec (P := P) (s_n T) 0 with ⟨i, -, h2, h3, h4⟩ | ⟨h1, h2⟩
    · rw [h4]
      have h3 := (hP i (by omega)).mp h3
      have hi := h3 i (by omega)
      rw [decide_eq_true rfl, mb] at hi
      obtain ⟨c0, p1, p2, p3⟩ := hi
      have all : ∀ c, c < s_T T → s_wy T c = true → fcS (s_gp T) (s_mn T) (s_f T) (s_n T) c p = i := by
        intro c hc hb
        have hl := hlt c
        have := h3 (fcS (s_gp T) (s_mn T) (s_f T) (s_n T) c p) (by omega)
        rw [(mb _).mpr ⟨c, hc, hb, rfl⟩] at this
        exact of_decide_eq_true this.symm
      rcases crF_spec (B := s_wy T) hne (s_T T) with ⟨a, b⟩ | ⟨c, c1, c2, c3, c4⟩ | ⟨⟨c, c', d1, d2, d3, d4, d5⟩, e⟩
      · rw [a c0 p1] at p2; cases p2
      · rw [c3, all c c1 c2]
      · exact absurd (by rw [all c d1 d3, all c' d2 d4]) d5
    · rw [h1]
      rcases crF_spec (B := s_wy T) hne (s_T T) with ⟨a, b⟩ | ⟨c, c1, c2, c3, c4⟩ | ⟨⟨c, c', d1, d2, d3, d4, d5⟩, e⟩
      · exact b.symm
      · exfalso
        have hl := hlt c
        have := h2 (fcS (s_gp T) (s_mn T) (s_f T) (s_n T) c p) (Nat.zero_le _) (by omega)
        have this : ¬ P (fcS (s_gp T) (s_mn T) (s_f T) (s_n T) c p) = true := by rw [this]; decide
        apply this
        rw [hP _ (by omega)]
        intro x hx
        by_cases e : x = fcS (s_gp T) (s_mn T) (s_f T) (s_n T) c p
        · rw [decide_eq_true e, mb]
          exact ⟨c, c1, c2, e.symm⟩
        · rw [decide_eq_false e]
          cases hm : mbB T (prF b12 (cnt (s_gp T) (s_n T))) p x with
          | false => rfl
          | true =>
            rw [mb] at hm
            obtain ⟨c', q1, q2, q3⟩ := hm
            have := c4 c' q1 q2
            have l2 := hlt c'
            rw [ni_eq (by omega) (by omega)] at this
            exact absurd (by rw [← this, q3]) e
      · exact e.symm
