/-! as many couples as can be, on -/
theorem cnt_zero {P : Nat → Bool} {n : Nat} (h : ∀ j, j < n → P j = false) : cnt P n = 0 := by
  induction n with
  | zero => rfl
  | succ n ih => rw [cnt_s, ih (fun j hj => h j (by omega)), h n (by omega)]; rfl
theorem cnt_at {P Q : Nat → Bool} {p : Nat} : ∀ n, p < n → (∀ j, j < n → j ≠ p → P j = Q j) → Q p = false → cnt P n = cnt Q n + (if P p = true then 1 else 0) := by
  intro n
  induction n with
  | zero => intro h; omega
  | succ n ih =>
    intro h hP hq
    rw [cnt_s, cnt_s]
    by_cases e : p = n
    · subst e
      rw [cnt_congr (fun j hj => hP j (by omega) (by omega)), hq]
      simp
    · rw [ih (by omega) (fun j hj => hP j (by omega)) hq, hP n (by omega) (by omega)]
      omega
theorem szF_cnt (N : Nat → Option Nat) : ∀ k p, szF N k p = cnt (fun m => decide (p ≤ m) && (N m).isSome) (p + k) := by
  intro k
  induction k with
  | zero =>
    intro p
    rw [cnt_zero (fun j hj => by have : ¬ p ≤ j := by omega
                                 simp [this])]
    rfl
  | succ k ih =>
    intro p
    show (if (N p).isSome = true then 1 else 0) + szF N k (p + 1) = _
    rw [ih (p + 1), cnt_at (P := fun m => decide (p ≤ m) && (N m).isSome) (Q := fun m => decide (p + 1 ≤ m) && (N m).isSome) (p := p) (p + (k + 1)) (by omega) (fun j _ hne => by
      have : (p ≤ j) = (p + 1 ≤ j) := propext (by constructor <;> intro <;> omega)
      simp only [this]) (by rw [decide_eq_false (show ¬ p + 1 ≤ p by omega), Bool.false_and])]
    rw [show p + 1 + k = p + (k + 1) by omega]
    simp
    omega
def mtB (M : Nat → Option Nat) (n x : Nat) : Bool := anyB (fun w => decide (M w = some x)) n
theorem anyB_ex {P : Nat → Bool} {n : Nat} : anyB P n = true ↔ ∃ j, j < n ∧ P j = true := by
  induction n with
  | zero => exact ⟨fun h => (by cases h), fun ⟨j, h, _⟩ => (by omega)⟩
  | succ n ih =>
    rw [anyB_s, Bool.or_eq_true, ih]
    constructor
    · rintro (⟨j, a, b⟩ | h)
      · exact ⟨j, by omega, b⟩
      · exact ⟨n, by omega, h⟩
    · rintro ⟨j, a, b⟩
      by_cases e : j = n
      · subst e; exact Or.inr b
      · exact Or.inl ⟨j, by omega, b⟩
theorem mtB_iff {M : Nat → Option Nat} {n x : Nat} : mtB M n x = true ↔ ∃ w, w < n ∧ M w = some x := by
  unfold mtB
  rw [anyB_ex]
  constructor
  · rintro ⟨w, a, b⟩; exact ⟨w, a, of_decide_eq_true b⟩
  · rintro ⟨w, a, b⟩; exact ⟨w, a, decide_eq_true b⟩
def fndO (P : Nat → Bool) : Nat → Option Nat
  | 0 => none
  | n + 1 => if P n = true then some n else fndO P n
theorem fndO_some {P : Nat → Bool} {n w : Nat} (h : fndO P n = some w) : w < n ∧ P w = true := by
  induction n with
  | zero => cases h
  | succ n ih =>
    unfold fndO at h
    split at h
    · cases h; rename_i hp; exact ⟨by omega, hp⟩
    · have := ih h; exact ⟨by omega, this.2⟩
theorem fndO_is {P : Nat → Bool} {n : Nat} : (fndO P n).isSome = anyB P n := by
  induction n with
  | zero => rfl
  | succ n ih =>
    rw [anyB_s]
    unfold fndO
    by_cases hp : P n = true
    · rw [if_pos hp, hp]; simp
    · rw [if_neg hp, ih]
      cases hq : P n with
      | true => exact absurd hq hp
      | false => simp
/-- what holds while the men are asked one by one -/
def MI (n : Nat) (ad : Nat → Nat → Bool) (U : Nat → Bool) (s m : Nat) (M : Nat → Option Nat) (c : Nat) : Prop := (∀ w h, w < n → M w = some h → s ≤ h ∧ h < m ∧ ad h w = true ∧ U w = false) ∧ (∀ w1 w2 h, w1 < n → w2 < n → M w1 = some h → M w2 = some h → w1 = w2) ∧ c = cnt (mtB M n) n ∧ ∃ X C : Nat → Prop, (∀ x, X x → ∀ w, w < n → ad x w = true → U w = false → C w) ∧ (∀ w, w < n → C w → ∃ h, M w = some h ∧ X h) ∧ ∀ p, s ≤ p → p < m → X p ∨ ∃ w, w < n ∧ M w = some p
theorem mi_step {n s m c : Nat} {ad : Nat → Nat → Bool} {U : Nat → Bool} {M : Nat → Option Nat} (h12 : n ≤ 12) (hs : s ≤ m) (hm : m < n) (h : MI n ad U s m M c) : MI n ad U s (m + 1) (fwF n ad 13 m U M).2.2 (c + if (fwF n ad 13 m U M).1 = true then 1 else 0) := by
  obtain ⟨v1, v2, v3, X, C, j1, j2, j3⟩ := h
  have nom : ∀ w, w < n → M w ≠ some m := fun w a b => by have := (v1 w m a b).2.1; omega
  by_cases hb : (fwF n ad 13 m U M).1 = true
  · obtain ⟨q1, q2, q3, q4⟩ := fw_ok (n := n) (ad := ad) 13 m U M (fun _ => False) (fun w q => q.elim) (fun w1 w2 x a b _ _ => v2 w1 w2 x a b) (fun w a _ => nom w a) hb
    have img : ∀ x, (∃ w, w < n ∧ (fwF n ad 13 m U M).2.2 w = some x) ↔ (∃ w, w < n ∧ M w = some x) ∨ x = m := fun x => by
      constructor
      · rintro ⟨w, a, b⟩
        rcases (q3 x).mp ⟨w, a, fun q => q, b⟩ with ⟨w2, a2, -, c2⟩ | e
        · exact Or.inl ⟨w2, a2, c2⟩
        · exact Or.inr e
      · rintro (⟨w, a, b⟩ | e)
        · obtain ⟨w2, a2, -, c2⟩ := (q3 x).mpr (Or.inl ⟨w, a, fun q => q, b⟩); exact ⟨w2, a2, c2⟩
        · obtain ⟨w2, a2, -, c2⟩ := (q3 x).mpr (Or.inr e); exact ⟨w2, a2, c2⟩
    rw [if_pos hb]
    refine ⟨fun w x a b => ?_, fun w1 w2 x a b => q2 w1 w2 x a b (fun q => q) (fun q => q), ?_, X, C, j1, fun w a b => ?_, fun p a b => ?_⟩
    · have r1 : s ≤ x ∧ x < m + 1 := by
        rcases (img x).mp ⟨w, a, b⟩ with ⟨w2, a2, c2⟩ | e
        · have := v1 w2 x a2 c2; omega
        · omega
      rcases q4 w x a b with e | ⟨e1, e2⟩
      · have := v1 w x a e; exact ⟨r1.1, r1.2, this.2.2⟩
      · exact ⟨r1.1, r1.2, e1, e2⟩
    · rw [v3]
      have hmt : mtB (fwF n ad 13 m U M).2.2 n m = true := mtB_iff.mpr ((img m).mpr (Or.inr rfl))
      have hmf : mtB M n m = false := by
        cases hz : mtB M n m with
        | false => rfl
        | true => obtain ⟨w, a, b⟩ := mtB_iff.mp hz; exact absurd b (nom w a)
      rw [cnt_at (P := mtB (fwF n ad 13 m U M).2.2 n) (Q := mtB M n) (p := m) n hm (fun j _ hne => by
        cases hz : mtB M n j with
        | true => exact mtB_iff.mpr ((img j).mpr (Or.inl (mtB_iff.mp hz)))
        | false =>
          cases hy : mtB (fwF n ad 13 m U M).2.2 n j with
          | false => rfl
          | true =>
            rcases (img j).mp (mtB_iff.mp hy) with q | q
            · rw [mtB_iff.mpr q] at hz; cases hz
            · exact absurd q hne) hmf, if_pos hmt]
    · rw [(fw_im (n := n) (ad := ad) 13 m U M U X C (fun _ q => q) j1 j2).2 w a b]
      exact j2 w a b
    · by_cases e : p = m
      · exact Or.inr ((img p).mpr (Or.inr e))
      · rcases j3 p a (by omega) with q | q
        · exact Or.inl q
        · exact Or.inr ((img p).mpr (Or.inl q))
  · have hf := fw_fail (n := n) (ad := ad) 13 m U M hb
    rw [if_neg hb, hf]
    have hcn := cnt_le (fun w => !U w) n
    obtain ⟨c1, c2⟩ := fw_cl (n := n) (ad := ad) 13 m U M (by omega) hb
    refine ⟨fun w x a b => by have := v1 w x a b; exact ⟨this.1, by omega, this.2.2⟩, v2, v3, fun x => X x ∨ x = m ∨ ∃ w, w < n ∧ (fwF n ad 13 m U M).2.1 w = true ∧ U w = false ∧ M w = some x, fun w => C w ∨ ((fwF n ad 13 m U M).2.1 w = true ∧ U w = false), ?_, ?_, ?_⟩
    · rintro x (hx | rfl | ⟨w', a', b', d', e'⟩) w hw ha hu
      · exact Or.inl (j1 x hx w hw ha hu)
      · exact Or.inr ⟨c1 w (Nat.zero_le w) hw ha, hu⟩
      · obtain ⟨h2, y1, y2⟩ := c2 w' a' b' d'
        rw [e'] at y1; cases y1
        exact Or.inr ⟨y2 w hw ha, hu⟩
    · rintro w hw (hc | ⟨a, b⟩)
      · obtain ⟨x, x1, x2⟩ := j2 w hw hc; exact ⟨x, x1, Or.inl x2⟩
      · obtain ⟨x, x1, -⟩ := c2 w hw a b
        exact ⟨x, x1, Or.inr (Or.inr ⟨w, hw, a, b, x1⟩)⟩
    · intro p a b
      by_cases e : p = m
      · exact Or.inl (Or.inr (Or.inl e))
      · rcases j3 p a (by omega) with q | q
        · exact Or.inl (Or.inl q)
        · exact Or.inr q
theorem mi_end {n s c : Nat} {ad : Nat → Nat → Bool} {U : Nat → Bool} {M : Nat → Option Nat} (hs : s ≤ n) (h : MI n ad U s n M c) : c = bsF n ad (n - s) s U := by
  obtain ⟨v1, v2, v3, X, C, j1, j2, j3⟩ := h
  apply Nat.le_antisymm
  · have hM : MT n ad s U (fun x => fndO (fun w => decide (M w = some x)) n) := by
      refine ⟨fun m w a b e => ?_, fun m1 m2 w a b e f p q => ?_⟩
      · obtain ⟨w1, w2⟩ := fndO_some e
        have := v1 w m w1 (of_decide_eq_true w2)
        exact ⟨w1, this.2.2⟩
      · obtain ⟨w1, w2⟩ := fndO_some p
        obtain ⟨w3, w4⟩ := fndO_some q
        have e1 := of_decide_eq_true w2
        have e2 := of_decide_eq_true w4
        rw [e1] at e2
        exact Option.some.inj e2
    have hub := bs_ub (n - s) s U (by omega) hM
    refine Nat.le_trans ?_ hub
    rw [v3, szF_cnt, show s + (n - s) = n by omega]
    apply Nat.le_of_eq
    apply cnt_congr
    intro j hj
    (try dsimp only)
    rw [fndO_is]
    show mtB M n j = (decide (s ≤ j) && mtB M n j)
    cases hz : mtB M n j with
    | false => simp
    | true =>
      obtain ⟨w, a, b⟩ := mtB_iff.mp hz
      have := (v1 w j a b).1
      simp [this]
  · obtain ⟨N, hM, hs2⟩ := bs_ex (ad := ad) (n - s) s U (show s + (n - s) = n by omega)
    rw [← hs2, szF_cnt, show s + (n - s) = n by omega, v3]
    have key : ∀ p, s ≤ p → p < n → ∀ w, N p = some w → (X p → ∃ h, M w = some h ∧ X h) ∧ (¬ X p → ∃ w, w < n ∧ M w = some p) := by
      intro p a b w e
      obtain ⟨d1, d2, d3⟩ := hM.1 p w a b e
      refine ⟨fun hx => j2 w d1 (j1 p hx w d1 d2 d3), fun hx => ?_⟩
      rcases j3 p a b with q | q
      · exact absurd q hx
      · exact q
    refine cnt_inj (fun p => @ite Nat (X p) (Classical.propDecidable _) (match N p with
      | some w => (match M w with
        | some h => h
        | none => 0)
      | none => 0) p) (fun p hp hP => ?_) (fun p1 p2 hp1 hp2 hP1 hP2 he => ?_)
    · simp only [Bool.and_eq_true, decide_eq_true_eq] at hP
      obtain ⟨w, hw⟩ := Option.isSome_iff_exists.mp hP.2
      obtain ⟨k1, k2⟩ := key p hP.1 hp w hw
      have hwn := (hM.1 p w hP.1 hp hw).1
      by_cases hx : X p
      · obtain ⟨x, x1, x2⟩ := k1 hx
        (try dsimp only)
        rw [if_pos hx, hw]
        (try dsimp only)
        rw [x1]
        have := v1 w x hwn x1
        exact ⟨this.2.1, mtB_iff.mpr ⟨w, hwn, x1⟩⟩
      · (try dsimp only)
        rw [if_neg hx]
        exact ⟨hp, mtB_iff.mpr (k2 hx)⟩
    · simp only [Bool.and_eq_true, decide_eq_true_eq] at hP1 hP2
      obtain ⟨w1, hw1⟩ := Option.isSome_iff_exists.mp hP1.2
      obtain ⟨w2, hw2⟩ := Option.isSome_iff_exists.mp hP2.2
      obtain ⟨k1, k1'⟩ := key p1 hP1.1 hp1 w1 hw1
      obtain ⟨k2, k2'⟩ := key p2 hP2.1 hp2 w2 hw2
      have hn1 := (hM.1 p1 w1 hP1.1 hp1 hw1).1
      have hn2 := (hM.1 p2 w2 hP2.1 hp2 hw2).1
      (try dsimp only at he)
      by_cases x1 : X p1
      · obtain ⟨y1, z1, u1⟩ := k1 x1
        by_cases x2 : X p2
        · obtain ⟨y2, z2, u2⟩ := k2 x2
          rw [if_pos x1, if_pos x2, hw1, hw2] at he
          (try dsimp only at he)
          rw [z1, z2] at he
          (try dsimp only at he)
          subst he
          have := v2 w1 w2 y1 hn1 hn2 z1 z2
          subst this
          exact hM.2 p1 p2 w1 hP1.1 hp1 hP2.1 hp2 hw1 hw2
        · rw [if_pos x1, if_neg x2, hw1] at he
          (try dsimp only at he)
          rw [z1] at he
          (try dsimp only at he)
          subst he
          exact absurd u1 x2
      · by_cases x2 : X p2
        · obtain ⟨y2, z2, u2⟩ := k2 x2
          rw [if_neg x1, if_pos x2, hw2] at he
          (try dsimp only at he)
          rw [z2] at he
          (try dsimp only at he)
          subst he
          exact absurd u2 x1
        · rw [if_neg x1, if_neg x2] at he
          exact he
theorem mf_inv {n s : Nat} {ad : Nat → Nat → Bool} {U : Nat → Bool} (h12 : n ≤ 12) : ∀ k m M c, m + k = n → s ≤ m → MI n ad U s m M c → MI n ad U s n (mfF n ad U k m M c).2 (mfF n ad U k m M c).1 := by
  intro k
  induction k with
  | zero =>
    intro m M c hm _ h
    have e : m = n := by omega
    subst e
    exact h
  | succ k ih =>
    intro m M c hm hs h
    unfold mfF
    exact ih (m + 1) _ _ (by omega) (by omega) (mi_step h12 hs (by omega) h)
/-- the search finds as many couples as can be -/
theorem mf_bs {n s : Nat} {ad : Nat → Nat → Bool} {U : Nat → Bool} (h12 : n ≤ 12) (hs : s ≤ n) : (mfF n ad U (n - s) s (fun _ => none) 0).1 = bsF n ad (n - s) s U := by
  apply mi_end hs
  apply mf_inv h12 _ _ _ _ (by omega) (Nat.le_refl s)
  refine ⟨fun w h _ q => (by cases q), fun w1 w2 h _ _ q => (by cases q), ?_, fun _ => False, fun _ => False, fun x q => q.elim, fun w _ q => q.elim, fun p a b => by omega⟩
  rw [cnt_zero]
  intro j _
  cases hz : mtB (fun _ => none) n j with
  | false => rfl
  | true => obtain ⟨w, _, q⟩ := mtB_iff.mp hz; cases q
