/-! the reference: kin; steps up -/
/-- a path of k steps up -/
def upP (al : Nat → Bool) (f g : Nat → Nat) : Nat → Nat → Nat → Prop
  | 0, a, j => a = j
  | k + 1, a, j => al a = false ∧ (upP al f g k (f a) j ∨ upP al f g k (g a) j)
theorem upP_snoc {al : Nat → Bool} {f g : Nat → Nat} : ∀ k a p, upP al f g k a p → al p = false → upP al f g (k + 1) a (f p) ∧ upP al f g (k + 1) a (g p) := by
  intro k
  induction k with
  | zero =>
    intro a p h hp
    have e : a = p := h
    subst e
    exact ⟨⟨hp, Or.inl rfl⟩, ⟨hp, Or.inr rfl⟩⟩
  | succ k ih =>
    intro a p h hp
    obtain ⟨h1, h2⟩ := h
    rcases h2 with h2 | h2
    · obtain ⟨q1, q2⟩ := ih _ p h2 hp
      exact ⟨⟨h1, Or.inl q1⟩, ⟨h1, Or.inl q2⟩⟩
    · obtain ⟨q1, q2⟩ := ih _ p h2 hp
      exact ⟨⟨h1, Or.inr q1⟩, ⟨h1, Or.inr q2⟩⟩
theorem upP_le {n : Nat} {al : Nat → Bool} {f g : Nat → Nat} (hS : PS n al f g) : ∀ k a j, a < n → upP al f g k a j → j + k ≤ a := by
  intro k
  induction k with
  | zero => intro a j _ h; have e : a = j := h; omega
  | succ k ih =>
    intro a j ha h
    obtain ⟨h1, h2⟩ := h
    obtain ⟨q1, q2⟩ := hS a ha h1
    rcases h2 with h2 | h2
    · have := ih _ _ (by omega) h2; omega
    · have := ih _ _ (by omega) h2; omega
theorem WF.pS {T : tS} (hW : WF T) : PS (s_n T) (s_al T) (s_f T) (s_g T) := fun i hi ha => ⟨((hW.2.1 i hi).2.2.1 ha).1, ((hW.2.1 i hi).2.2.1 ha).2.1⟩
theorem up_rec {T : tS} (hW : WF T) {a : Nat} (ha : a < s_n T) (j : Nat) : s_up T a j = if j = a then 0 else if s_al T a = true then -1 else oneM (s_up T (s_f T a) j) (s_up T (s_g T a) j) := by
  unfold s_up
  rw [upA_stable (m := a + 1) (by omega) (by omega), upA_s]
  dsimp only
  rw [if_pos rfl]
  cases hal : s_al T a with
  | true => rw [if_pos (show true = true from rfl), if_pos (show true = true from rfl)]
  | false =>
    obtain ⟨h1, h2⟩ := hW.pS a ha hal
    rw [upA_stable (i := s_f T a) (m := a) (n := s_n T) h1 (by omega), upA_stable (i := s_g T a) (m := a) (n := s_n T) h2 (by omega)]
/-- what a number of steps says -/
def upI (T : tS) (a j : Nat) (x : Int32) : Prop := (x = -1 ∧ ∀ k, ¬ upP (s_al T) (s_f T) (s_g T) k a j) ∨ ∃ k, k ≤ 12 ∧ x = nI k ∧ upP (s_al T) (s_f T) (s_g T) k a j ∧ ∀ k', upP (s_al T) (s_f T) (s_g T) k' a j → k ≤ k'
theorem up_spec {T : tS} (hW : WF T) : ∀ N a, a ≤ N → a < s_n T → ∀ j, upI T a j (s_up T a j) := by
  intro N
  have h12 := hW.1
  induction N with
  | zero =>
    intro a ha han j
    have e : a = 0 := by omega
    subst e
    have hal : s_al T 0 = true := by
      cases h : s_al T 0 with
      | true => rfl
      | false => have := (hW.pS 0 han h).1; omega
    rw [up_rec hW han]
    by_cases e : j = 0
    · rw [if_pos e]
      exact Or.inr ⟨0, by omega, rfl, e.symm, fun _ _ => by omega⟩
    · rw [if_neg e, if_pos hal]
      refine Or.inl ⟨rfl, fun k h => ?_⟩
      cases k with
      | zero => exact e (Eq.symm h)
      | succ k => rw [h.1] at hal; cases hal
  | succ N ih =>
    intro a ha han j
    rw [up_rec hW han]
    by_cases e : j = a
    · rw [if_pos e]
      exact Or.inr ⟨0, by omega, rfl, e.symm, fun _ _ => by omega⟩
    · rw [if_neg e]
      cases hal : s_al T a with
      | true =>
        rw [if_pos rfl]
        refine Or.inl ⟨rfl, fun k h => ?_⟩
        cases k with
        | zero => exact e (Eq.symm h)
        | succ k => rw [h.1] at hal; cases hal
      | false =>
        rw [if_neg (show ¬ false = true by decide)]
        obtain ⟨h1, h2⟩ := hW.pS a han hal
        have i1 := ih (s_f T a) (by omega) (by omega) j
        have i2 := ih (s_g T a) (by omega) (by omega) j
        have bd : ∀ k, upP (s_al T) (s_f T) (s_g T) k a j → k ≤ 12 := fun k h => by have := upP_le hW.pS k a j han h; omega
        unfold oneM
        rcases i1 with ⟨e1, n1⟩ | ⟨k1, b1, e1, p1, m1⟩
        · rw [if_pos e1]
          rcases i2 with ⟨e2, n2⟩ | ⟨k2, b2, e2, p2, m2⟩
          · rw [if_pos e2]
            refine Or.inl ⟨rfl, fun k h => ?_⟩
            cases k with
            | zero => exact e (Eq.symm h)
            | succ k => exact h.2.elim (n1 k) (n2 k)
          · rw [e2, if_neg (am_nm1 (by omega)), nI_1]
            have hp : upP (s_al T) (s_f T) (s_g T) (k2 + 1) a j := ⟨hal, Or.inr p2⟩
            refine Or.inr ⟨k2 + 1, bd _ hp, rfl, hp, fun k h => ?_⟩
            cases k with
            | zero => exact absurd (Eq.symm h) e
            | succ k => exact h.2.elim (fun q => absurd q (n1 k)) (fun q => by have := m2 k q; omega)
        · rw [e1, if_neg (am_nm1 (by omega))]
          have hp1 : upP (s_al T) (s_f T) (s_g T) (k1 + 1) a j := ⟨hal, Or.inl p1⟩
          rcases i2 with ⟨e2, n2⟩ | ⟨k2, b2, e2, p2, m2⟩
          · rw [if_pos e2, nI_1]
            refine Or.inr ⟨k1 + 1, bd _ hp1, rfl, hp1, fun k h => ?_⟩
            cases k with
            | zero => exact absurd (Eq.symm h) e
            | succ k => exact h.2.elim (fun q => by have := m1 k q; omega) (fun q => absurd q (n2 k))
          · have hp2 : upP (s_al T) (s_f T) (s_g T) (k2 + 1) a j := ⟨hal, Or.inr p2⟩
            rw [e2, if_neg (am_nm1 (by omega))]
            by_cases hlt : k2 < k1
            · rw [if_pos ((nI_ltI (by omega) (by omega)).mpr hlt), nI_1]
              refine Or.inr ⟨k2 + 1, bd _ hp2, rfl, hp2, fun k h => ?_⟩
              cases k with
              | zero => exact absurd (Eq.symm h) e
              | succ k => exact h.2.elim (fun q => by have := m1 k q; omega) (fun q => by have := m2 k q; omega)
            · rw [if_neg (by rw [ni_lt (by omega) (by omega)]; exact hlt), nI_1]
              refine Or.inr ⟨k1 + 1, bd _ hp1, rfl, hp1, fun k h => ?_⟩
              cases k with
              | zero => exact absurd (Eq.symm h) e
              | succ k => exact h.2.elim (fun q => by have := m1 k q; omega) (fun q => by have := m2 k q; omega)
def farI (x : Int32) : Int32 := if x = -1 then 1000 else x
/-- the numbers of steps, when all from p on have been looked at -/
def SI (T : tS) (a p : Nat) (s : Nat → Nat) : Prop := (∀ j, s j ≤ 1000) ∧ (∀ j, s j < 1000 → upP (s_al T) (s_f T) (s_g T) (s j) a j) ∧ ∀ k j, upP (s_al T) (s_f T) (s_g T) k a j → s j ≤ k ∨ ∃ q k1 k2, q < p ∧ k1 + k2 = k ∧ s q ≤ k1 ∧ upP (s_al T) (s_f T) (s_g T) k2 q j
theorem SI_0 {T : tS} {a : Nat} : SI T a (a + 1) (fun j => if j = a then 0 else 1000) := by
  refine ⟨fun j => ?_, fun j h => ?_, fun k j h => Or.inr ⟨a, 0, k, by omega, by omega, ?_, h⟩⟩
  · show (if j = a then 0 else 1000) ≤ 1000
    split <;> omega
  · have h : (if j = a then 0 else 1000) < 1000 := h
    show upP _ _ _ (if j = a then 0 else 1000) a j
    by_cases e : j = a
    · rw [if_pos e]
      exact e.symm
    · rw [if_neg e] at h
      omega
  · show (if a = a then 0 else 1000) ≤ 0
    rw [if_pos rfl]
    exact Nat.le_refl 0
theorem SI_end {T : tS} {a j : Nat} {s : Nat → Nat} (hW : WF T) (ha : a < s_n T) (h : SI T a 0 s) : nI (s j) = farI (s_up T a j) := by
  obtain ⟨h1, h2, h3⟩ := h
  have h3 : ∀ k, upP (s_al T) (s_f T) (s_g T) k a j → s j ≤ k := fun k hk => by
    rcases h3 k j hk with q | ⟨q, -, -, q1, -⟩
    · exact q
    · omega
  have h12 := hW.1
  unfold farI
  rcases up_spec hW a a (Nat.le_refl a) ha j with ⟨e, hn⟩ | ⟨k, hk, e, hp, hm⟩
  · rw [if_pos e]
    have : s j = 1000 := by
      rcases Nat.lt_or_ge (s j) 1000 with q | q
      · exact absurd (h2 j q) (hn _)
      · have := h1 j; omega
    rw [this]
    rfl
  · rw [e, if_neg (am_nm1 (by omega))]
    have q1 := h3 k hp
    have q2 := hm (s j) (h2 j (by omega))
    rw [show s j = k by omega]
/-- one person looked at, of those without parents -/
theorem SI_no {T : tS} {a p : Nat} {s : Nat → Nat} (h : SI T a (p + 1) s) (hal : s_al T p = true) : SI T a p s := by
  obtain ⟨h1, h2, h3⟩ := h
  refine ⟨h1, h2, fun k j hk => ?_⟩
  rcases h3 k j hk with q | ⟨q, k1, k2, q1, q2, q3, q4⟩
  · exact Or.inl q
  · by_cases e : q = p
    · subst e
      cases k2 with
      | zero =>
        have : q = j := q4
        subst this
        exact Or.inl (by omega)
      | succ k2 => rw [q4.1] at hal; cases hal
    · exact Or.inr ⟨q, k1, k2, by omega, q2, q3, q4⟩
def lwN (s : Nat → Nat) (i v : Nat) : Nat → Nat := fun j => if j = i then (if v < s i then v else s i) else s j
theorem lwN_le {s : Nat → Nat} {i v j : Nat} : lwN s i v j ≤ s j := by
  unfold lwN
  split
  · rename_i e; subst e; split <;> omega
  · exact Nat.le_refl _
theorem lwN_at {s : Nat → Nat} {i v : Nat} : lwN s i v i ≤ v := by
  unfold lwN
  rw [if_pos rfl]
  split <;> omega
theorem lwN_n {s : Nat → Nat} {i v j : Nat} (h : j ≠ i) : lwN s i v j = s j := if_neg h
theorem SI_yes {T : tS} {a p : Nat} {s : Nat → Nat} (h : SI T a (p + 1) s) (hal : s_al T p = false) (hf : s_f T p < p) (hg : s_g T p < p) : SI T a p (lwN (lwN s (s_f T p) (s p + 1)) (s_g T p) (s p + 1)) := by
  obtain ⟨h1, h2, h3⟩ := h
  have le : ∀ j, lwN (lwN s (s_f T p) (s p + 1)) (s_g T p) (s p + 1) j ≤ s j := fun j => Nat.le_trans lwN_le lwN_le
  refine ⟨fun j => Nat.le_trans (le j) (h1 j), fun j hj => ?_, fun k j hk => ?_⟩
  · have hpp : ∀ i, s p + 1 < 1000 → (i = s_f T p ∨ i = s_g T p) → upP (s_al T) (s_f T) (s_g T) (s p + 1) a i := fun i hi he => by
      obtain ⟨q1, q2⟩ := upP_snoc (s p) a p (h2 p (by omega)) hal
      rcases he with e | e
      · rw [e]; exact q1
      · rw [e]; exact q2
    unfold lwN at hj ⊢
    by_cases e1 : j = s_g T p
    · rw [if_pos e1] at hj ⊢
      by_cases e2 : s_g T p = s_f T p
      · rw [if_pos e2] at hj ⊢
        by_cases e3 : s p + 1 < s (s_f T p)
        · rw [if_pos e3] at hj ⊢
          rw [if_neg (Nat.lt_irrefl _)] at hj ⊢
          exact hpp j hj (Or.inr e1)
        · rw [if_neg e3] at hj ⊢
          rw [if_neg e3] at hj ⊢
          rw [e1, e2]
          exact h2 _ hj
      · rw [if_neg e2] at hj ⊢
        by_cases e3 : s p + 1 < s (s_g T p)
        · rw [if_pos e3] at hj ⊢
          exact hpp j hj (Or.inr e1)
        · rw [if_neg e3] at hj ⊢
          rw [e1]
          exact h2 _ hj
    · rw [if_neg e1] at hj ⊢
      by_cases e2 : j = s_f T p
      · rw [if_pos e2] at hj ⊢
        by_cases e3 : s p + 1 < s (s_f T p)
        · rw [if_pos e3] at hj ⊢
          exact hpp j hj (Or.inl e2)
        · rw [if_neg e3] at hj ⊢
          rw [e2]
          exact h2 _ hj
      · rw [if_neg e2] at hj ⊢
        exact h2 j hj
  · rcases h3 k j hk with q | ⟨q, k1, k2, q1, q2, q3, q4⟩
    · exact Or.inl (Nat.le_trans (le j) q)
    · by_cases e : q = p
      · subst e
        cases k2 with
        | zero =>
          have : q = j := q4
          subst this
          exact Or.inl (Nat.le_trans (le q) (by omega))
        | succ k2 =>
          rcases q4.2 with q5 | q5
          · refine Or.inr ⟨s_f T q, k1 + 1, k2, hf, by omega, ?_, q5⟩
            exact Nat.le_trans lwN_le (Nat.le_trans lwN_at (by omega))
          · refine Or.inr ⟨s_g T q, k1 + 1, k2, hg, by omega, ?_, q5⟩
            exact Nat.le_trans lwN_at (by omega)
      · exact Or.inr ⟨q, k1, k2, by omega, q2, Nat.le_trans (le q) q3, q4⟩
theorem m_steps_i {d a sc : Nat} {τ : Int64} {v4 : Value} (hsc : am_sh sc = some (.inl (false, 12))) (ha : a < 12) : ∀ k i (σ : am_St), i + k = 12 → (∀ j, j < i → σ sc j = nI (if j = a then 0 else 1000)) → ∃ σ' : am_St, am_run d 123 2 [.ref 42, .int (nI a), .ref sc, .int (nI i), v4] [] σ τ = am_run d 123 29 [.ref 42, .int (nI a), .ref sc, .int (nI 12), v4] [] σ' τ ∧ (∀ c, c ≠ sc → σ' c = σ c) ∧ ∀ j, j < 12 → σ' sc j = nI (if j = a then 0 else 1000) := by
  intro k
  induction k with
  | zero =>
    intro i σ hi h
    have e : i = 12 := by omega
    subst e
    refine ⟨σ, ?_, fun _ _ => rfl, h⟩
    rw [r123_2]
    simp (disch := first | assumption | omega | rfl | exact Nat.le_of_ble_eq_true rfl | decide) only [r123_0, r123_1, r123_3, r123_5, r123_8, r123_9, r123_10, r123_11, r123_12, r123_15, r123_16, r123_19, r123_22, r123_23, r123_26, r123_30, r123_32, r123_35, r123_36, r123_37, r123_38, r123_39, r123_40, r123_42, r123_43, r123_46, r123_47, r123_48, r123_49, r123_52, r123_54, r123_55, r123_56, r123_59, r123_60, r123_61, r123_62, r123_65, r123_66, r123_67, r123_70, r123_71, r123_72, r123_74, r123_75, r123_76, r123_79, r123_80, r123_81, r123_82, r123_85, r123_87, r123_88, r123_89, r123_92, r123_93, r123_94, r123_95, r123_98, r123_99, r123_100, r123_103, r123_104, r123_105, r123_107, r123_108, r123_111, r123_114, am_gf_42_11, am_gf_42_15, am_ai_49, am_ai_53, am_nl_i, am_nl_r, am_nl_n, am_nl_l, Option.bind_some, Option.toList_some, Option.toList_none, List.cons_append, List.nil_append, if_true, if_false, Bool.false_eq_true, Int.reduceEq, Int.reduceAdd, ↓reduceIte, show (12 : Int32) = nI 12 from rfl, i_rf]
  | succ k ih =>
    intro i σ hi h
    have hc : ¬ 12 ≤ i := by omega
    have hi12 : i < 12 := by omega
    obtain ⟨σ', g1, g2, g3⟩ := ih (i + 1) (am_up σ sc i (nI (if i = a then 0 else 1000))) (by omega) (fun j hj => by
      rw [am_up_eq]
      by_cases e : j = i
      · subst e; rw [pk_us]
      · rw [pk_un e]; exact h j (by omega))
    refine ⟨σ', ?_, fun c x => by rw [g2 c x, am_up_ne x], g3⟩
    rw [← g1, r123_2]
    by_cases e : i = a
    · subst e
      simp (disch := first | assumption | omega | rfl | exact Nat.le_of_ble_eq_true rfl | decide) only [r123_0, r123_1, r123_3, r123_5, r123_8, r123_9, r123_10, r123_11, r123_12, r123_15, r123_16, r123_19, r123_22, r123_23, r123_26, r123_30, r123_32, r123_35, r123_36, r123_37, r123_38, r123_39, r123_40, r123_42, r123_43, r123_46, r123_47, r123_48, r123_49, r123_52, r123_54, r123_55, r123_56, r123_59, r123_60, r123_61, r123_62, r123_65, r123_66, r123_67, r123_70, r123_71, r123_72, r123_74, r123_75, r123_76, r123_79, r123_80, r123_81, r123_82, r123_85, r123_87, r123_88, r123_89, r123_92, r123_93, r123_94, r123_95, r123_98, r123_99, r123_100, r123_103, r123_104, r123_105, r123_107, r123_108, r123_111, r123_114, am_gf_42_11, am_gf_42_15, am_ai_49, am_ai_53, am_nl_i, am_nl_r, am_nl_n, am_nl_l, Option.bind_some, Option.toList_some, Option.toList_none, List.cons_append, List.nil_append, if_true, if_false, Bool.false_eq_true, Int.reduceEq, Int.reduceAdd, ↓reduceIte, show (12 : Int32) = nI 12 from rfl, ni_le, hc, am_av hsc, nI_1, show (0 : Int32) = nI 0 from rfl]
    · have e' : ¬ nI i = nI a := by rw [ni_eq (by omega) (by omega)]; exact e
      simp (disch := first | assumption | omega | rfl | exact Nat.le_of_ble_eq_true rfl | decide) only [r123_0, r123_1, r123_3, r123_5, r123_8, r123_9, r123_10, r123_11, r123_12, r123_15, r123_16, r123_19, r123_22, r123_23, r123_26, r123_30, r123_32, r123_35, r123_36, r123_37, r123_38, r123_39, r123_40, r123_42, r123_43, r123_46, r123_47, r123_48, r123_49, r123_52, r123_54, r123_55, r123_56, r123_59, r123_60, r123_61, r123_62, r123_65, r123_66, r123_67, r123_70, r123_71, r123_72, r123_74, r123_75, r123_76, r123_79, r123_80, r123_81, r123_82, r123_85, r123_87, r123_88, r123_89, r123_92, r123_93, r123_94, r123_95, r123_98, r123_99, r123_100, r123_103, r123_104, r123_105, r123_107, r123_108, r123_111, r123_114, am_gf_42_11, am_gf_42_15, am_ai_49, am_ai_53, am_nl_i, am_nl_r, am_nl_n, am_nl_l, Option.bind_some, Option.toList_some, Option.toList_none, List.cons_append, List.nil_append, if_true, if_false, Bool.false_eq_true, Int.reduceEq, Int.reduceAdd, ↓reduceIte, show (12 : Int32) = nI 12 from rfl, ni_le, hc, e', e, am_av hsc, nI_1, show (1000 : Int32) = nI 1000 from rfl]
theorem m_steps_loop {d a sc : Nat} {τ : Int64} {T : tS} (hW : WF T) (ha : a < s_n T) (hsc : am_sh sc = some (.inl (false, 12))) (h53 : 53 ≠ sc) (h49 : 49 ≠ sc) : ∀ p (v4 : Value) (s : Nat → Nat) (σ : am_St), p ≤ s_n T → (∀ j, j < s_n T → σ 53 j = encS (s_al T) (s_f T) j ∧ σ 49 j = encS (s_al T) (s_g T) j) → SI T a p s → (∀ j, j < 12 → σ sc j = nI (s j)) → ∃ σ' : am_St, am_run d 123 31 [.ref 42, .int (nI a), .ref sc, .int (nI p - 1), v4] [] σ τ = some (none, σ', τ) ∧ (∀ c, c ≠ sc → σ' c = σ c) ∧ ∀ j, j < 12 → σ' sc j = farI (s_up T a j) := by
  intro p
  have h12 := hW.1
  induction p with
  | zero =>
    intro v4 s σ hp hfg hS hs
    refine ⟨σ, ?_, fun _ _ => rfl, fun j hj => by rw [hs j hj]; exact SI_end hW ha hS⟩
    have e : nI 0 - 1 < 0 := by decide
    rw [r123_31]
    simp (disch := first | assumption | omega | rfl | exact Nat.le_of_ble_eq_true rfl | decide) only [r123_0, r123_1, r123_3, r123_5, r123_8, r123_9, r123_10, r123_11, r123_12, r123_15, r123_16, r123_19, r123_22, r123_23, r123_26, r123_29, r123_30, r123_32, r123_35, r123_36, r123_37, r123_38, r123_39, r123_40, r123_42, r123_43, r123_46, r123_47, r123_48, r123_49, r123_52, r123_54, r123_55, r123_56, r123_59, r123_60, r123_61, r123_62, r123_65, r123_66, r123_67, r123_70, r123_71, r123_72, r123_74, r123_75, r123_76, r123_79, r123_80, r123_81, r123_82, r123_85, r123_87, r123_88, r123_89, r123_92, r123_93, r123_94, r123_95, r123_98, r123_99, r123_100, r123_103, r123_104, r123_105, r123_107, r123_108, r123_111, r123_114, am_gf_42_11, am_gf_42_15, am_ai_49, am_ai_53, am_nl_i, am_nl_r, am_nl_n, am_nl_l, Option.bind_some, Option.toList_some, Option.toList_none, List.cons_append, List.nil_append, if_true, if_false, Bool.false_eq_true, Int.reduceEq, Int.reduceAdd, ↓reduceIte, e]
  | succ p ih =>
    intro v4 s σ hp hfg hS hs
    have hpn : p < s_n T := by omega
    have hp12 : p < 12 := by omega
    have hz : ¬ nI p < 0 := nI_pos (by omega)
    obtain ⟨e1, e2⟩ := hfg p hpn
    have hsp := hs p hp12
    have hb := hS.1
    cases hal : s_al T p with
    | true =>
      unfold encS at e1 e2
      rw [if_pos hal] at e1 e2
      obtain ⟨σ', g1, g2, g3⟩ := ih (.int (nI (s p + 1))) s σ (by omega) hfg (SI_no hS hal) hs
      refine ⟨σ', ?_, g2, g3⟩
      rw [← g1, r123_31, nI_pred]
      simp (disch := first | assumption | omega | rfl | exact Nat.le_of_ble_eq_true rfl | decide) only [r123_0, r123_1, r123_3, r123_5, r123_8, r123_9, r123_10, r123_11, r123_12, r123_15, r123_16, r123_19, r123_22, r123_23, r123_26, r123_29, r123_30, r123_32, r123_35, r123_36, r123_37, r123_38, r123_39, r123_40, r123_42, r123_43, r123_46, r123_47, r123_48, r123_49, r123_52, r123_54, r123_55, r123_56, r123_59, r123_60, r123_61, r123_62, r123_65, r123_66, r123_67, r123_70, r123_71, r123_72, r123_74, r123_75, r123_76, r123_79, r123_80, r123_81, r123_82, r123_85, r123_87, r123_88, r123_89, r123_92, r123_93, r123_94, r123_95, r123_98, r123_99, r123_100, r123_103, r123_104, r123_105, r123_107, r123_108, r123_111, r123_114, am_gf_42_11, am_gf_42_15, am_ai_49, am_ai_53, am_nl_i, am_nl_r, am_nl_n, am_nl_l, Option.bind_some, Option.toList_some, Option.toList_none, List.cons_append, List.nil_append, if_true, if_false, Bool.false_eq_true, Int.reduceEq, Int.reduceAdd, ↓reduceIte, hz, am_av hsc, hsp, nI_1, e1, e2, ni_pm]
    | false =>
      have hna : ¬ s_al T p = true := by rw [hal]; decide
      obtain ⟨hf, hg⟩ := hW.pS p hpn hal
      unfold encS at e1 e2
      rw [if_neg hna] at e1 e2
      have nf : ¬ nI (s_f T p) = -1 := am_nm1 (by omega)
      have ng : ¬ nI (s_g T p) = -1 := am_nm1 (by omega)
      have hf12 : s_f T p < 12 := by omega
      have hg12 : s_g T p < 12 := by omega
      have bp := hb p
      have bf := hb (s_f T p)
      have bg := hb (s_g T p)
      -- the father's
      have one : ∃ σ1 : am_St, am_run d 123 31 [.ref 42, .int (nI a), .ref sc, .int (nI p), v4] [] σ τ = am_run d 123 75 [.ref 42, .int (nI a), .ref sc, .int (nI p), .int (nI (s p + 1))] [] σ1 τ ∧ (∀ c, c ≠ sc → σ1 c = σ c) ∧ ∀ j, j < 12 → σ1 sc j = nI (lwN s (s_f T p) (s p + 1) j) := by
        by_cases hlt : s p + 1 < s (s_f T p)
        · refine ⟨am_up σ sc (s_f T p) (nI (s p + 1)), ?_, fun c x => am_up_ne x, fun j hj => ?_⟩
          · have hl : ¬ nI (s (s_f T p)) ≤ nI (s p + 1) := by rw [ni_le (by omega) (by omega)]; omega
            rw [r123_31]
            simp (disch := first | assumption | omega | rfl | exact Nat.le_of_ble_eq_true rfl | decide) only [r123_0, r123_1, r123_3, r123_5, r123_8, r123_9, r123_10, r123_11, r123_12, r123_15, r123_16, r123_19, r123_22, r123_23, r123_26, r123_29, r123_30, r123_32, r123_35, r123_36, r123_37, r123_38, r123_39, r123_40, r123_42, r123_43, r123_46, r123_47, r123_48, r123_49, r123_52, r123_54, r123_55, r123_56, r123_59, r123_60, r123_61, r123_62, r123_65, r123_66, r123_67, r123_70, r123_71, r123_72, r123_74, r123_76, r123_79, r123_80, r123_81, r123_82, r123_85, r123_87, r123_88, r123_89, r123_92, r123_93, r123_94, r123_95, r123_98, r123_99, r123_100, r123_103, r123_104, r123_105, r123_107, r123_108, r123_111, r123_114, am_gf_42_11, am_gf_42_15, am_ai_49, am_ai_53, am_nl_i, am_nl_r, am_nl_n, am_nl_l, Option.bind_some, Option.toList_some, Option.toList_none, List.cons_append, List.nil_append, if_true, if_false, Bool.false_eq_true, Int.reduceEq, Int.reduceAdd, ↓reduceIte, hz, am_av hsc, hsp, nI_1, e1, nf, hs (s_f T p) hf12, hl]
          · rw [am_up_eq]
            unfold upd lwN
            by_cases e : j = s_f T p
            · rw [if_pos e, if_pos e, if_pos hlt]
            · rw [if_neg e, if_neg e]; exact hs j hj
        · refine ⟨σ, ?_, fun c x => rfl, fun j hj => ?_⟩
          · have hl : nI (s (s_f T p)) ≤ nI (s p + 1) := nI_le (by omega) (by omega)
            rw [r123_31]
            simp (disch := first | assumption | omega | rfl | exact Nat.le_of_ble_eq_true rfl | decide) only [r123_0, r123_1, r123_3, r123_5, r123_8, r123_9, r123_10, r123_11, r123_12, r123_15, r123_16, r123_19, r123_22, r123_23, r123_26, r123_29, r123_30, r123_32, r123_35, r123_36, r123_37, r123_38, r123_39, r123_40, r123_42, r123_43, r123_46, r123_47, r123_48, r123_49, r123_52, r123_54, r123_55, r123_56, r123_59, r123_60, r123_61, r123_62, r123_65, r123_66, r123_67, r123_70, r123_71, r123_72, r123_74, r123_76, r123_79, r123_80, r123_81, r123_82, r123_85, r123_87, r123_88, r123_89, r123_92, r123_93, r123_94, r123_95, r123_98, r123_99, r123_100, r123_103, r123_104, r123_105, r123_107, r123_108, r123_111, r123_114, am_gf_42_11, am_gf_42_15, am_ai_49, am_ai_53, am_nl_i, am_nl_r, am_nl_n, am_nl_l, Option.bind_some, Option.toList_some, Option.toList_none, List.cons_append, List.nil_append, if_true, if_false, Bool.false_eq_true, Int.reduceEq, Int.reduceAdd, ↓reduceIte, hz, am_av hsc, hsp, nI_1, e1, nf, hs (s_f T p) hf12, hl]
          · unfold lwN
            by_cases e : j = s_f T p
            · rw [if_pos e, if_neg hlt, ← e]; exact hs j hj
            · rw [if_neg e]; exact hs j hj
      obtain ⟨σ1, a1, a2, a3⟩ := one
      have e2' : σ1 49 p = nI (s_g T p) := by rw [a2 49 h49]; exact e2
      have two : ∃ σ2 : am_St, am_run d 123 75 [.ref 42, .int (nI a), .ref sc, .int (nI p), .int (nI (s p + 1))] [] σ1 τ = am_run d 123 31 [.ref 42, .int (nI a), .ref sc, .int (nI p - 1), .int (nI (s p + 1))] [] σ2 τ ∧ (∀ c, c ≠ sc → σ2 c = σ1 c) ∧ ∀ j, j < 12 → σ2 sc j = nI (lwN (lwN s (s_f T p) (s p + 1)) (s_g T p) (s p + 1) j) := by
        have b2 : lwN s (s_f T p) (s p + 1) (s_g T p) ≤ 1000 := Nat.le_trans lwN_le bg
        have hsg := a3 (s_g T p) hg12
        generalize lwN s (s_f T p) (s p + 1) = s1 at a3 hsg b2 ⊢
        by_cases hlt : s p + 1 < s1 (s_g T p)
        · refine ⟨am_up σ1 sc (s_g T p) (nI (s p + 1)), ?_, fun c x => am_up_ne x, fun j hj => ?_⟩
          · have hl : ¬ nI (s1 (s_g T p)) ≤ nI (s p + 1) := by rw [ni_le (by omega) (by omega)]; omega
            rw [r123_75]
            simp (disch := first | assumption | omega | rfl | exact Nat.le_of_ble_eq_true rfl | decide) only [r123_0, r123_1, r123_3, r123_5, r123_8, r123_9, r123_10, r123_11, r123_12, r123_15, r123_16, r123_19, r123_22, r123_23, r123_26, r123_29, r123_30, r123_32, r123_35, r123_36, r123_37, r123_38, r123_39, r123_40, r123_42, r123_43, r123_46, r123_47, r123_48, r123_49, r123_52, r123_54, r123_55, r123_56, r123_59, r123_60, r123_61, r123_62, r123_65, r123_66, r123_67, r123_70, r123_71, r123_72, r123_74, r123_76, r123_79, r123_80, r123_81, r123_82, r123_85, r123_87, r123_88, r123_89, r123_92, r123_93, r123_94, r123_95, r123_98, r123_99, r123_100, r123_103, r123_104, r123_105, r123_107, r123_108, r123_111, r123_114, am_gf_42_11, am_gf_42_15, am_ai_49, am_ai_53, am_nl_i, am_nl_r, am_nl_n, am_nl_l, Option.bind_some, Option.toList_some, Option.toList_none, List.cons_append, List.nil_append, if_true, if_false, Bool.false_eq_true, Int.reduceEq, Int.reduceAdd, ↓reduceIte, am_av hsc, e2', ng, hsg, hl, ni_pm]
          · rw [am_up_eq]
            unfold upd lwN
            by_cases e : j = s_g T p
            · rw [if_pos e, if_pos e, if_pos hlt]
            · rw [if_neg e, if_neg e]; exact a3 j hj
        · refine ⟨σ1, ?_, fun c x => rfl, fun j hj => ?_⟩
          · have hl : nI (s1 (s_g T p)) ≤ nI (s p + 1) := nI_le (by omega) (by omega)
            rw [r123_75]
            simp (disch := first | assumption | omega | rfl | exact Nat.le_of_ble_eq_true rfl | decide) only [r123_0, r123_1, r123_3, r123_5, r123_8, r123_9, r123_10, r123_11, r123_12, r123_15, r123_16, r123_19, r123_22, r123_23, r123_26, r123_29, r123_30, r123_32, r123_35, r123_36, r123_37, r123_38, r123_39, r123_40, r123_42, r123_43, r123_46, r123_47, r123_48, r123_49, r123_52, r123_54, r123_55, r123_56, r123_59, r123_60, r123_61, r123_62, r123_65, r123_66, r123_67, r123_70, r123_71, r123_72, r123_74, r123_76, r123_79, r123_80, r123_81, r123_82, r123_85, r123_87, r123_88, r123_89, r123_92, r123_93, r123_94, r123_95, r123_98, r123_99, r123_100, r123_103, r123_104, r123_105, r123_107, r123_108, r123_111, r123_114, am_gf_42_11, am_gf_42_15, am_ai_49, am_ai_53, am_nl_i, am_nl_r, am_nl_n, am_nl_l, Option.bind_some, Option.toList_some, Option.toList_none, List.cons_append, List.nil_append, if_true, if_false, Bool.false_eq_true, Int.reduceEq, Int.reduceAdd, ↓reduceIte, am_av hsc, e2', ng, hsg, hl, ni_pm]
          · unfold lwN
            by_cases e : j = s_g T p
            · rw [if_pos e, if_neg hlt, ← e]; exact a3 j hj
            · rw [if_neg e]; exact a3 j hj
      obtain ⟨σ2, b1, b2, b3⟩ := two
      obtain ⟨σ', g1, g2, g3⟩ := ih (.int (nI (s p + 1))) _ σ2 (by omega) (fun j hj => by rw [b2 53 h53, a2 53 h53, b2 49 h49, a2 49 h49]; exact hfg j hj) (SI_yes hS hal hf hg) b3
      refine ⟨σ', ?_, fun c x => by rw [g2 c x, b2 c x, a2 c x], g3⟩
      rw [nI_pred, a1, b1, g1]
theorem m_laySteps {d a sc : Nat} {σ : am_St} {τ : Int64} {T : tS} (hR : RM σ T) (hW : WF T) (ha : a < s_n T) (hsc : am_sh sc = some (.inl (false, 12))) (h53 : 53 ≠ sc) (h49 : 49 ≠ sc) : ∃ σ' : am_St, am_call d 123 [.ref 42, .int (nI a), .ref sc] σ τ = some (none, σ', τ) ∧ (∀ c, c ≠ sc → σ' c = σ c) ∧ ∀ j, j < 12 → σ' sc j = farI (s_up T a j) := by
  have h12 := hW.1
  obtain ⟨σ1, a1, a2, a3⟩ := m_steps_i (d := d) (τ := τ) (v4 := .null) hsc (show a < 12 by omega) 12 0 σ rfl (fun j hj => absurd hj (Nat.not_lt_zero j))
  obtain ⟨σ2, b1, b2, b3⟩ := m_steps_loop (d := d) (τ := τ) hW ha hsc h53 h49 (a + 1) .null _ σ1 (by omega) (fun j hj => by rw [a2 53 h53, a2 49 h49]; exact ⟨(hR.2.1 j hj).2.2.2.2.2.2.2, (hR.2.1 j hj).2.2.2.1⟩) SI_0 a3
  refine ⟨σ2, ?_, fun c x => by rw [b2 c x, a2 c x], b3⟩
  show am_run d 123 0 [.ref 42, .int (nI a), .ref sc, .null, .null] [] σ τ = _
  have e0 : nI 0 = 0 := rfl
  rw [e0] at a1
  rw [nI_pred] at b1
  simp (disch := first | assumption | omega | rfl | exact Nat.le_of_ble_eq_true rfl | decide) only [r123_0, r123_1, r123_3, r123_5, r123_8, r123_9, r123_10, r123_11, r123_12, r123_15, r123_16, r123_19, r123_22, r123_23, r123_26, r123_29, r123_30, r123_32, r123_35, r123_36, r123_37, r123_38, r123_39, r123_40, r123_42, r123_43, r123_46, r123_47, r123_48, r123_49, r123_52, r123_54, r123_55, r123_56, r123_59, r123_60, r123_61, r123_62, r123_65, r123_66, r123_67, r123_70, r123_71, r123_72, r123_74, r123_75, r123_76, r123_79, r123_80, r123_81, r123_82, r123_85, r123_87, r123_88, r123_89, r123_92, r123_93, r123_94, r123_95, r123_98, r123_99, r123_100, r123_103, r123_104, r123_105, r123_107, r123_108, r123_111, r123_114, am_gf_42_11, am_gf_42_15, am_ai_49, am_ai_53, am_nl_i, am_nl_r, am_nl_n, am_nl_l, Option.bind_some, Option.toList_some, Option.toList_none, List.cons_append, List.nil_append, if_true, if_false, Bool.false_eq_true, Int.reduceEq, Int.reduceAdd, ↓reduceIte]
  rw [a1, r123_29]
  simp (disch := first | assumption | omega | rfl | exact Nat.le_of_ble_eq_true rfl | decide) only [r123_0, r123_1, r123_3, r123_5, r123_8, r123_9, r123_10, r123_11, r123_12, r123_15, r123_16, r123_19, r123_22, r123_23, r123_26, r123_30, r123_32, r123_35, r123_36, r123_37, r123_38, r123_39, r123_40, r123_42, r123_43, r123_46, r123_47, r123_48, r123_49, r123_52, r123_54, r123_55, r123_56, r123_59, r123_60, r123_61, r123_62, r123_65, r123_66, r123_67, r123_70, r123_71, r123_72, r123_74, r123_75, r123_76, r123_79, r123_80, r123_81, r123_82, r123_85, r123_87, r123_88, r123_89, r123_92, r123_93, r123_94, r123_95, r123_98, r123_99, r123_100, r123_103, r123_104, r123_105, r123_107, r123_108, r123_111, r123_114, am_gf_42_11, am_gf_42_15, am_ai_49, am_ai_53, am_nl_i, am_nl_r, am_nl_n, am_nl_l, Option.bind_some, Option.toList_some, Option.toList_none, List.cons_append, List.nil_append, if_true, if_false, Bool.false_eq_true, Int.reduceEq, Int.reduceAdd, ↓reduceIte]
  exact b1
def okU (x : Int32) (m : Nat) : Prop := x = -1 ∨ ∃ k, k ≤ m ∧ x = nI k
theorem up_ok {T : tS} (hW : WF T) {a : Nat} (ha : a < s_n T) (j : Nat) : okU (s_up T a j) 12 := by
  rcases up_spec hW a a (Nat.le_refl a) ha j with ⟨e, -⟩ | ⟨k, hk, e, -⟩
  · exact Or.inl e
  · exact Or.inr ⟨k, hk, e⟩
theorem dst_ok {u v : Nat → Int32} {n : Nat} (hu : ∀ j, j < n → okU (u j) 12) (hv : ∀ j, j < n → okU (v j) 12) : okU (dstF u v n) 24 := by
  induction n with
  | zero => exact Or.inl rfl
  | succ n ih =>
    unfold dstF
    split
    · rename_i h
      obtain ⟨h1, h2, -⟩ := h
      rcases hu n (by omega) with e | ⟨k, hk, e⟩
      · exact absurd e h1
      · rcases hv n (by omega) with e2 | ⟨k2, hk2, e2⟩
        · exact absurd e2 h2
        · rw [e, e2, nI_add]
          exact Or.inr ⟨k + k2, by omega, rfl⟩
    · exact ih (fun j hj => hu j (by omega)) (fun j hj => hv j (by omega))
theorem m_near_loop {d n : Nat} {σ : am_St} {τ : Int64} {u v : Nat → Int32} {v1 v2 : Value} (hv2 : am_nl v2 = v2) (h12 : n ≤ 12) (hn : σ 42 6 = nI n) (hu : ∀ j, j < n → okU (u j) 12) (hv : ∀ j, j < n → okU (v j) 12) (h64 : ∀ j, j < n → σ 64 j = farI (u j)) (h65 : ∀ j, j < n → σ 65 j = farI (v j)) : ∀ k i (v5 : Value), i + k = n → am_run d 124 25 [.ref 42, v1, v2, .int (farI (dstF u v i)), .int (nI i), v5] [] σ τ = some (some (.int (dstF u v n)), σ, τ) := by
  intro k
  induction k with
  | zero =>
    intro i v5 hi
    have e : i = n := by omega
    subst e
    rw [r124_25]
    rcases dst_ok hu hv with e | ⟨k, hk, e⟩
    · have ef : farI (dstF u v i) = 1000 := by unfold farI; rw [if_pos e]
      rw [ef, e]
      simp (disch := first | assumption | omega | rfl | exact Nat.le_of_ble_eq_true rfl | decide) only [r124_0, r124_1, r124_2, r124_3, r124_6, r124_9, r124_10, r124_11, r124_12, r124_15, r124_18, r124_21, r124_22, r124_23, r124_27, r124_28, r124_31, r124_34, r124_35, r124_38, r124_40, r124_41, r124_42, r124_45, r124_47, r124_48, r124_49, r124_51, r124_53, r124_54, r124_57, r124_59, r124_62, r124_63, r124_64, r124_67, r124_70, r124_71, r124_74, r124_77, r124_78, r124_81, r124_82, am_gf_42_6, am_gf_42_27, am_gf_42_28, am_ai_64, am_ai_65, am_nl_i, am_nl_r, am_nl_n, am_nl_l, Option.bind_some, Option.toList_some, Option.toList_none, List.cons_append, List.nil_append, if_true, if_false, Bool.false_eq_true, Int.reduceEq, Int.reduceAdd, ↓reduceIte, hn, i_rf]
    · have ef : farI (dstF u v i) = nI k := by unfold farI; rw [e, if_neg (am_nm1 (by omega))]
      have hne : ¬ nI k = 1000 := by
        show ¬ nI k = nI 1000
        rw [ni_eq (by omega) (by omega)]; omega
      rw [ef, e]
      simp (disch := first | assumption | omega | rfl | exact Nat.le_of_ble_eq_true rfl | decide) only [r124_0, r124_1, r124_2, r124_3, r124_6, r124_9, r124_10, r124_11, r124_12, r124_15, r124_18, r124_21, r124_22, r124_23, r124_27, r124_28, r124_31, r124_34, r124_35, r124_38, r124_40, r124_41, r124_42, r124_45, r124_47, r124_48, r124_49, r124_51, r124_53, r124_54, r124_57, r124_59, r124_62, r124_63, r124_64, r124_67, r124_70, r124_71, r124_74, r124_77, r124_78, r124_81, r124_82, am_gf_42_6, am_gf_42_27, am_gf_42_28, am_ai_64, am_ai_65, am_nl_i, am_nl_r, am_nl_n, am_nl_l, Option.bind_some, Option.toList_some, Option.toList_none, List.cons_append, List.nil_append, if_true, if_false, Bool.false_eq_true, Int.reduceEq, Int.reduceAdd, ↓reduceIte, hn, i_rf, hne]
  | succ k ih =>
    intro i v5 hi
    have hc : ¬ n ≤ i := by omega
    have hi12 : i < 12 := by omega
    have hL := dst_ok (n := i) (fun j hj => hu j (by omega)) (fun j hj => hv j (by omega))
    have key : ∃ (s : Nat), farI (u i) + farI (v i) = nI s ∧ s < 2147483648 ∧ ((∃ l, farI (dstF u v i) = nI l ∧ l < 2147483648 ∧ ((l ≤ s ∧ farI (dstF u v (i + 1)) = farI (dstF u v i)) ∨ (s < l ∧ farI (dstF u v (i + 1)) = nI s)))) := by
      have fL : ∃ l, farI (dstF u v i) = nI l ∧ l ≤ 1000 := by
        rcases hL with e | ⟨l, hl, e⟩
        · exact ⟨1000, by unfold farI; rw [if_pos e]; rfl, by omega⟩
        · exact ⟨l, by unfold farI; rw [e, if_neg (am_nm1 (by omega))], by omega⟩
      obtain ⟨l, el, hl⟩ := fL
      have skip : ¬ (¬ u i = -1 ∧ ¬ v i = -1 ∧ (dstF u v i = -1 ∨ u i + v i < dstF u v i)) → farI (dstF u v (i + 1)) = farI (dstF u v i) := fun q => by
        have : dstF u v (i + 1) = dstF u v i := if_neg q
        rw [this]
      have take : (¬ u i = -1 ∧ ¬ v i = -1 ∧ (dstF u v i = -1 ∨ u i + v i < dstF u v i)) → dstF u v (i + 1) = u i + v i := fun q => if_pos q
      rcases hu i (by omega) with e1 | ⟨k1, hk1, e1⟩
      · have f1 : farI (u i) = nI 1000 := by unfold farI; rw [if_pos e1]; rfl
        have hsk := skip (fun q => q.1 e1)
        rcases hv i (by omega) with e2 | ⟨k2, hk2, e2⟩
        · have f2 : farI (v i) = nI 1000 := by unfold farI; rw [if_pos e2]; rfl
          exact ⟨1000 + 1000, by rw [f1, f2, nI_add], by omega, l, el, by omega, Or.inl ⟨by omega, hsk⟩⟩
        · have f2 : farI (v i) = nI k2 := by unfold farI; rw [e2, if_neg (am_nm1 (by omega))]
          exact ⟨1000 + k2, by rw [f1, f2, nI_add], by omega, l, el, by omega, Or.inl ⟨by omega, hsk⟩⟩
      · have f1 : farI (u i) = nI k1 := by unfold farI; rw [e1, if_neg (am_nm1 (by omega))]
        have n1 : ¬ u i = -1 := by rw [e1]; exact am_nm1 (by omega)
        rcases hv i (by omega) with e2 | ⟨k2, hk2, e2⟩
        · have f2 : farI (v i) = nI 1000 := by unfold farI; rw [if_pos e2]; rfl
          have hsk := skip (fun q => q.2.1 e2)
          exact ⟨k1 + 1000, by rw [f1, f2, nI_add], by omega, l, el, by omega, Or.inl ⟨by omega, hsk⟩⟩
        · have f2 : farI (v i) = nI k2 := by unfold farI; rw [e2, if_neg (am_nm1 (by omega))]
          have n2 : ¬ v i = -1 := by rw [e2]; exact am_nm1 (by omega)
          refine ⟨k1 + k2, by rw [f1, f2, nI_add], by omega, l, el, by omega, ?_⟩
          have fs : farI (u i + v i) = nI (k1 + k2) := by
            rw [e1, e2, nI_add]
            unfold farI
            rw [if_neg (am_nm1 (by omega))]
          rcases hL with e | ⟨l2, hl2, e⟩
          · have : l = 1000 := by
              unfold farI at el
              rw [if_pos e] at el
              have := (ni_eq (a := 1000) (b := l) (by omega) (by omega)).mp el
              omega
            refine Or.inr ⟨by omega, ?_⟩
            rw [take ⟨n1, n2, Or.inl e⟩, fs]
          · have : l = l2 := by
              unfold farI at el
              rw [e, if_neg (am_nm1 (by omega))] at el
              have := (ni_eq (a := l2) (b := l) (by omega) (by omega)).mp el
              omega
            subst this
            by_cases hlt : k1 + k2 < l
            · refine Or.inr ⟨hlt, ?_⟩
              rw [take ⟨n1, n2, Or.inr (by rw [e, e1, e2, nI_add, ni_lt (by omega) (by omega)]; exact hlt)⟩, fs]
            · refine Or.inl ⟨by omega, skip (fun q => ?_)⟩
              rcases q.2.2 with q | q
              · rw [e] at q; exact am_nm1 (by omega) q
              · rw [e, e1, e2, nI_add, ni_lt (by omega) (by omega)] at q; exact hlt q
    obtain ⟨s, es, hs, l, el, hl, hcase⟩ := key
    rw [← ih (i + 1) (.int (nI s)) (by omega), r124_25]
    rcases hcase with ⟨c1, c2⟩ | ⟨c1, c2⟩
    · have c1' : nI l ≤ nI s := nI_le c1 hs
      rw [c2, el]
      simp (disch := first | assumption | omega | rfl | exact Nat.le_of_ble_eq_true rfl | decide) only [r124_0, r124_1, r124_2, r124_3, r124_6, r124_9, r124_10, r124_11, r124_12, r124_15, r124_18, r124_21, r124_22, r124_23, r124_27, r124_28, r124_31, r124_34, r124_35, r124_38, r124_40, r124_41, r124_42, r124_45, r124_47, r124_48, r124_49, r124_51, r124_53, r124_54, r124_57, r124_59, r124_62, r124_63, r124_64, r124_67, r124_70, r124_71, r124_74, r124_77, r124_78, r124_81, r124_82, am_gf_42_6, am_gf_42_27, am_gf_42_28, am_ai_64, am_ai_65, am_nl_i, am_nl_r, am_nl_n, am_nl_l, Option.bind_some, Option.toList_some, Option.toList_none, List.cons_append, List.nil_append, if_true, if_false, Bool.false_eq_true, Int.reduceEq, Int.reduceAdd, ↓reduceIte, hn, ni_le, hc, h64 i (show i < n by omega), h65 i (show i < n by omega), es, c1', nI_1, hv2]
    · have c1' : ¬ nI l ≤ nI s := by rw [ni_le hl hs]; omega
      rw [c2, el]
      simp (disch := first | assumption | omega | rfl | exact Nat.le_of_ble_eq_true rfl | decide) only [r124_0, r124_1, r124_2, r124_3, r124_6, r124_9, r124_10, r124_11, r124_12, r124_15, r124_18, r124_21, r124_22, r124_23, r124_27, r124_28, r124_31, r124_34, r124_35, r124_38, r124_40, r124_41, r124_42, r124_45, r124_47, r124_48, r124_49, r124_51, r124_53, r124_54, r124_57, r124_59, r124_62, r124_63, r124_64, r124_67, r124_70, r124_71, r124_74, r124_77, r124_78, r124_81, r124_82, am_gf_42_6, am_gf_42_27, am_gf_42_28, am_ai_64, am_ai_65, am_nl_i, am_nl_r, am_nl_n, am_nl_l, Option.bind_some, Option.toList_some, Option.toList_none, List.cons_append, List.nil_append, if_true, if_false, Bool.false_eq_true, Int.reduceEq, Int.reduceAdd, ↓reduceIte, hn, ni_le, hc, h64 i (show i < n by omega), h65 i (show i < n by omega), es, c1', nI_1, hv2]
theorem m_nearOf {d a b : Nat} {σ : am_St} {τ : Int64} {T : tS} (hR : RM σ T) (hW : WF T) (ha : a < s_n T) (hb : b < s_n T) : ∃ σ' : am_St, am_call (d + 1) 124 [.ref 42, .int (nI a), .int (nI b)] σ τ = some (some (.int (s_ds T a b)), σ', τ) ∧ ∀ c, c ≠ 64 → c ≠ 65 → σ' c = σ c := by
  have h12 := hW.1
  obtain ⟨σ1, a1, a2, a3⟩ := m_laySteps (d := d) (τ := τ) (sc := 64) hR hW ha rfl (by decide) (by decide)
  have hR1 : RM σ1 T := hR.keep (KM.of (fun c hc => a2 c (by omega)))
  obtain ⟨σ2, b1, b2, b3⟩ := m_laySteps (d := d) (τ := τ) (sc := 65) hR1 hW hb rfl (by decide) (by decide)
  have lp := m_near_loop (d := d + 1) (σ := σ2) (τ := τ) (n := s_n T) (u := s_up T a) (v := s_up T b) (v1 := .int (nI a)) (v2 := .int (nI b)) rfl h12 (by rw [b2 42 (by decide), a2 42 (by decide)]; exact hR.1) (fun j _ => up_ok hW ha j) (fun j _ => up_ok hW hb j) (fun j hj => by rw [b2 64 (by decide)]; exact a3 j (by omega)) (fun j hj => b3 j (by omega)) (s_n T) 0 .null (by omega)
  refine ⟨σ2, ?_, fun c x y => by rw [b2 c y, a2 c x]⟩
  show am_run (d + 1) 124 0 [.ref 42, .int (nI a), .int (nI b), .null, .null, .null] [] σ τ = _
  have e0 : nI 0 = 0 := rfl
  have ef : farI (dstF (s_up T a) (s_up T b) 0) = 1000 := rfl
  rw [e0, ef] at lp
  simp (disch := first | assumption | omega | rfl | exact Nat.le_of_ble_eq_true rfl | decide) only [r124_0, r124_1, r124_2, r124_3, r124_6, r124_9, r124_10, r124_11, r124_12, r124_15, r124_18, r124_21, r124_22, r124_23, r124_27, r124_28, r124_31, r124_34, r124_35, r124_38, r124_40, r124_41, r124_42, r124_45, r124_47, r124_48, r124_49, r124_51, r124_53, r124_54, r124_57, r124_59, r124_62, r124_63, r124_64, r124_67, r124_70, r124_71, r124_74, r124_77, r124_78, r124_81, r124_82, am_gf_42_6, am_gf_42_27, am_gf_42_28, am_ai_64, am_ai_65, am_nl_i, am_nl_r, am_nl_n, am_nl_l, Option.bind_some, Option.toList_some, Option.toList_none, List.cons_append, List.nil_append, if_true, if_false, Bool.false_eq_true, Int.reduceEq, Int.reduceAdd, ↓reduceIte, a1, b1]
  exact lp
theorem m_near {d : Nat} {σ : am_St} {τ : Int64} {T : tS} {a b : Int32} (hR : RM σ T) (hW : WF T) : ∃ σ' : am_St, am_call (d + 2) 125 [.ref 42, .int a, .int b] σ τ = some (some (.int (sp_near T a b)), σ', τ) ∧ KM σ σ' := by
  show ∃ σ' : am_St, am_run (d + 2) 125 0 [.ref 42, .int a, .int b] [] σ τ = _ ∧ _
  unfold sp_near
  have hn := hR.1
  have h12 := hW.1
  cases ha : idx (s_n T) a with
  | none =>
    refine ⟨σ, ?_, KM.rf⟩
    simp (disch := first | assumption | omega | rfl | exact Nat.le_of_ble_eq_true rfl | decide) only [r125_0, r125_1, r125_2, r125_5, r125_8, r125_9, r125_10, r125_13, r125_16, r125_17, r125_18, r125_19, r125_22, r125_25, r125_27, am_nl_i, am_nl_r, am_nl_n, am_nl_l, Option.bind_some, Option.toList_some, Option.toList_none, List.cons_append, List.nil_append, if_true, if_false, Bool.false_eq_true, Int.reduceEq, Int.reduceAdd, ↓reduceIte, m_isP_n hn h12 ha]
  | some i =>
    cases hb : idx (s_n T) b with
    | none =>
      refine ⟨σ, ?_, KM.rf⟩
      simp (disch := first | assumption | omega | rfl | exact Nat.le_of_ble_eq_true rfl | decide) only [r125_0, r125_1, r125_2, r125_5, r125_8, r125_9, r125_10, r125_13, r125_16, r125_17, r125_18, r125_19, r125_22, r125_25, r125_27, am_nl_i, am_nl_r, am_nl_n, am_nl_l, Option.bind_some, Option.toList_some, Option.toList_none, List.cons_append, List.nil_append, if_true, if_false, Bool.false_eq_true, Int.reduceEq, Int.reduceAdd, ↓reduceIte, m_isP_s hn h12 ha, m_isP_n hn h12 hb, e10]
    | some j =>
      obtain ⟨hi, rfl⟩ := idx_some h12 ha
      obtain ⟨hj, rfl⟩ := idx_some h12 hb
      obtain ⟨σ', g1, g2⟩ := m_nearOf (d := d) (τ := τ) hR hW hi hj
      refine ⟨σ', ?_, KM.of (fun c hc => g2 c (by omega) (by omega))⟩
      simp (disch := first | assumption | omega | rfl | exact Nat.le_of_ble_eq_true rfl | decide) only [r125_0, r125_1, r125_2, r125_5, r125_8, r125_9, r125_10, r125_13, r125_16, r125_17, r125_18, r125_19, r125_22, r125_25, r125_27, am_nl_i, am_nl_r, am_nl_n, am_nl_l, Option.bind_some, Option.toList_some, Option.toList_none, List.cons_append, List.nil_append, if_true, if_false, Bool.false_eq_true, Int.reduceEq, Int.reduceAdd, ↓reduceIte, m_isP_s hn h12 ha, m_isP_s hn h12 hb, e10, g1]
theorem ds_ok {T : tS} (hW : WF T) {a b : Nat} (ha : a < s_n T) (hb : b < s_n T) : okU (s_ds T a b) 24 := dst_ok (fun j _ => up_ok hW ha j) (fun j _ => up_ok hW hb j)
theorem nl_ok {T : tS} (hW : WF T) {p : Nat} (hp : p < s_n T) : ∀ i, i ≤ s_n T → okU (nlF (s_lv T) (s_ds T p) p i).2 24 := by
  intro i
  induction i with
  | zero => intro _; exact Or.inl rfl
  | succ i ih =>
    intro hi
    obtain ⟨v, ev⟩ : ∃ v : Int32, v = (if i = p then (-1 : Int32) else if s_lv T i = 0 then -1 else s_ds T p i) := ⟨_, rfl⟩
    have okv : okU v 24 := by
      rw [ev]
      split
      · exact Or.inl rfl
      · split
        · exact Or.inl rfl
        · exact ds_ok hW hp (by omega)
    have hs : nlF (s_lv T) (s_ds T p) p (i + 1) = if ¬ v = -1 ∧ ((nlF (s_lv T) (s_ds T p) p i).2 = -1 ∨ v < (nlF (s_lv T) (s_ds T p) p i).2) then (nI i, v) else nlF (s_lv T) (s_ds T p) p i := by rw [ev]; rfl
    rw [hs]
    split
    · exact okv
    · exact ih (by omega)
theorem m_kin_loop {d p : Nat} {τ : Int64} {T : tS} (hW : WF T) (hp : p < s_n T) : ∀ k i (v5 : Value) (σ : am_St), i + k = s_n T → RM σ T → ∃ σ' : am_St, am_run (d + 2) 126 9 [.ref 42, .int (nI p), .int (nlF (s_lv T) (s_ds T p) p i).1, .int (farI (nlF (s_lv T) (s_ds T p) p i).2), .int (nI i), v5] [] σ τ = some (some (.int (s_kn T p)), σ', τ) ∧ ∀ c, c ≠ 64 → c ≠ 65 → σ' c = σ c := by
  intro k
  have h12 := hW.1
  induction k with
  | zero =>
    intro i v5 σ hi hR
    have e : i = s_n T := by omega
    subst e
    refine ⟨σ, ?_, fun _ _ _ => rfl⟩
    rw [r126_9]
    simp (disch := first | assumption | omega | rfl | exact Nat.le_of_ble_eq_true rfl | decide) only [r126_0, r126_1, r126_2, r126_5, r126_6, r126_7, r126_11, r126_12, r126_15, r126_18, r126_20, r126_21, r126_24, r126_25, r126_28, r126_30, r126_31, r126_34, r126_35, r126_38, r126_39, r126_40, r126_42, r126_45, r126_47, r126_49, r126_50, r126_53, r126_55, r126_56, r126_59, r126_61, r126_64, r126_65, r126_66, r126_68, r126_69, r126_72, r126_74, r126_75, r126_78, r126_80, r126_83, r126_84, r126_85, r126_88, r126_91, r126_92, am_gf_42_6, am_gf_42_14, am_ai_52, am_nl_i, am_nl_r, am_nl_n, am_nl_l, Option.bind_some, Option.toList_some, Option.toList_none, List.cons_append, List.nil_append, if_true, if_false, Bool.false_eq_true, Int.reduceEq, Int.reduceAdd, ↓reduceIte, hR.1, i_rf]
    rfl
  | succ k ih =>
    intro i v5 σ hi hR
    have hc : ¬ s_n T ≤ i := by omega
    have hin : i < s_n T := by omega
    have hi12 : i < 12 := by omega
    have hn := hR.1
    have q52 := (hR.2.1 i hin).2.2.2.2.2.2.1
    -- what v is
    have hv : ∃ (v : Int32) (σ1 : am_St), v = (if i = p then (-1 : Int32) else if s_lv T i = 0 then -1 else s_ds T p i) ∧ (∀ c, c ≠ 64 → c ≠ 65 → σ1 c = σ c) ∧ RM σ1 T ∧ am_run (d + 2) 126 9 [.ref 42, .int (nI p), .int (nlF (s_lv T) (s_ds T p) p i).1, .int (farI (nlF (s_lv T) (s_ds T p) p i).2), .int (nI i), v5] [] σ τ = am_run (d + 2) 126 47 [.ref 42, .int (nI p), .int (nlF (s_lv T) (s_ds T p) p i).1, .int (farI (nlF (s_lv T) (s_ds T p) p i).2), .int (nI i), .int v] [] σ1 τ := by
      by_cases h1 : i = p
      · refine ⟨-1, σ, by rw [if_pos h1], fun _ _ _ => rfl, hR, ?_⟩
        subst h1
        rw [r126_9]
        simp (disch := first | assumption | omega | rfl | exact Nat.le_of_ble_eq_true rfl | decide) only [r126_0, r126_1, r126_2, r126_5, r126_6, r126_7, r126_11, r126_12, r126_15, r126_18, r126_20, r126_21, r126_24, r126_25, r126_28, r126_30, r126_31, r126_34, r126_35, r126_38, r126_39, r126_40, r126_42, r126_45, r126_49, r126_50, r126_53, r126_55, r126_56, r126_59, r126_61, r126_64, r126_65, r126_66, r126_68, r126_69, r126_72, r126_74, r126_75, r126_78, r126_80, r126_83, r126_84, r126_85, r126_88, r126_91, r126_92, am_gf_42_6, am_gf_42_14, am_ai_52, am_nl_i, am_nl_r, am_nl_n, am_nl_l, Option.bind_some, Option.toList_some, Option.toList_none, List.cons_append, List.nil_append, if_true, if_false, Bool.false_eq_true, Int.reduceEq, Int.reduceAdd, ↓reduceIte, hn, ni_le, hc]
      · have h1' : ¬ nI i = nI p := by rw [ni_eq (by omega) (by omega)]; exact h1
        by_cases h2 : s_lv T i = 0
        · refine ⟨-1, σ, by rw [if_neg h1, if_pos h2], fun _ _ _ => rfl, hR, ?_⟩
          rw [h2] at q52
          rw [r126_9]
          simp (disch := first | assumption | omega | rfl | exact Nat.le_of_ble_eq_true rfl | decide) only [r126_0, r126_1, r126_2, r126_5, r126_6, r126_7, r126_11, r126_12, r126_15, r126_18, r126_20, r126_21, r126_24, r126_25, r126_28, r126_30, r126_31, r126_34, r126_35, r126_38, r126_39, r126_40, r126_42, r126_45, r126_49, r126_50, r126_53, r126_55, r126_56, r126_59, r126_61, r126_64, r126_65, r126_66, r126_68, r126_69, r126_72, r126_74, r126_75, r126_78, r126_80, r126_83, r126_84, r126_85, r126_88, r126_91, r126_92, am_gf_42_6, am_gf_42_14, am_ai_52, am_nl_i, am_nl_r, am_nl_n, am_nl_l, Option.bind_some, Option.toList_some, Option.toList_none, List.cons_append, List.nil_append, if_true, if_false, Bool.false_eq_true, Int.reduceEq, Int.reduceAdd, ↓reduceIte, hn, ni_le, hc, h1', q52]
        · have q52' : ¬ σ 52 i = 0 := by rw [q52]; exact h2
          obtain ⟨σ1, a1, a2⟩ := m_nearOf (d := d) (τ := τ) hR hW hp hin
          refine ⟨s_ds T p i, σ1, by rw [if_neg h1, if_neg h2], a2, hR.keep (KM.of (fun c hc => a2 c (by omega) (by omega))), ?_⟩
          rw [r126_9]
          simp (disch := first | assumption | omega | rfl | exact Nat.le_of_ble_eq_true rfl | decide) only [r126_0, r126_1, r126_2, r126_5, r126_6, r126_7, r126_11, r126_12, r126_15, r126_18, r126_20, r126_21, r126_24, r126_25, r126_28, r126_30, r126_31, r126_34, r126_35, r126_38, r126_39, r126_40, r126_42, r126_45, r126_49, r126_50, r126_53, r126_55, r126_56, r126_59, r126_61, r126_64, r126_65, r126_66, r126_68, r126_69, r126_72, r126_74, r126_75, r126_78, r126_80, r126_83, r126_84, r126_85, r126_88, r126_91, r126_92, am_gf_42_6, am_gf_42_14, am_ai_52, am_nl_i, am_nl_r, am_nl_n, am_nl_l, Option.bind_some, Option.toList_some, Option.toList_none, List.cons_append, List.nil_append, if_true, if_false, Bool.false_eq_true, Int.reduceEq, Int.reduceAdd, ↓reduceIte, hn, ni_le, hc, h1', q52', a1]
    obtain ⟨v, σ1, ev, a2, hR1, go⟩ := hv
    have okv : okU v 24 := by
      rw [ev]
      split
      · exact Or.inl rfl
      · split
        · exact Or.inl rfl
        · exact ds_ok hW hp hin
    have hL := nl_ok hW hp i (by omega)
    have hs : nlF (s_lv T) (s_ds T p) p (i + 1) = if ¬ v = -1 ∧ ((nlF (s_lv T) (s_ds T p) p i).2 = -1 ∨ v < (nlF (s_lv T) (s_ds T p) p i).2) then (nI i, v) else nlF (s_lv T) (s_ds T p) p i := by rw [ev]; rfl
    obtain ⟨σ', g1, g2⟩ := ih (i + 1) (.int v) σ1 (by omega) hR1
    refine ⟨σ', ?_, fun c x y => by rw [g2 c x y, a2 c x y]⟩
    rw [go, ← g1, hs, r126_47]
    generalize nlF (s_lv T) (s_ds T p) p i = L at hL ⊢
    rcases okv with e | ⟨kv, hkv, e⟩
    · rw [if_neg (fun q => q.1 e), e]
      simp (disch := first | assumption | omega | rfl | exact Nat.le_of_ble_eq_true rfl | decide) only [r126_0, r126_1, r126_2, r126_5, r126_6, r126_7, r126_11, r126_12, r126_15, r126_18, r126_20, r126_21, r126_24, r126_25, r126_28, r126_30, r126_31, r126_34, r126_35, r126_38, r126_39, r126_40, r126_42, r126_45, r126_49, r126_50, r126_53, r126_55, r126_56, r126_59, r126_61, r126_64, r126_65, r126_66, r126_68, r126_69, r126_72, r126_74, r126_75, r126_78, r126_80, r126_83, r126_84, r126_85, r126_88, r126_91, r126_92, am_gf_42_6, am_gf_42_14, am_ai_52, am_nl_i, am_nl_r, am_nl_n, am_nl_l, Option.bind_some, Option.toList_some, Option.toList_none, List.cons_append, List.nil_append, if_true, if_false, Bool.false_eq_true, Int.reduceEq, Int.reduceAdd, ↓reduceIte, nI_1]
    · have nv : ¬ v = -1 := by rw [e]; exact am_nm1 (by omega)
      have fv : farI v = v := by unfold farI; rw [if_neg nv]
      rcases hL with eL | ⟨l, hl, eL⟩
      · have fL : farI L.2 = 1000 := by unfold farI; rw [if_pos eL]
        have hlt : ¬ 1000 ≤ v := by
          rw [e]
          show ¬ nI 1000 ≤ nI kv
          rw [ni_le (by omega) (by omega)]; omega
        rw [if_pos ⟨nv, Or.inl eL⟩, fL]
        dsimp only
        rw [fv]
        simp (disch := first | assumption | omega | rfl | exact Nat.le_of_ble_eq_true rfl | decide) only [r126_0, r126_1, r126_2, r126_5, r126_6, r126_7, r126_11, r126_12, r126_15, r126_18, r126_20, r126_21, r126_24, r126_25, r126_28, r126_30, r126_31, r126_34, r126_35, r126_38, r126_39, r126_40, r126_42, r126_45, r126_49, r126_50, r126_53, r126_55, r126_56, r126_59, r126_61, r126_64, r126_65, r126_66, r126_68, r126_69, r126_72, r126_74, r126_75, r126_78, r126_80, r126_83, r126_84, r126_85, r126_88, r126_91, r126_92, am_gf_42_6, am_gf_42_14, am_ai_52, am_nl_i, am_nl_r, am_nl_n, am_nl_l, Option.bind_some, Option.toList_some, Option.toList_none, List.cons_append, List.nil_append, if_true, if_false, Bool.false_eq_true, Int.reduceEq, Int.reduceAdd, ↓reduceIte, nv, hlt, nI_1]
      · have nL : ¬ L.2 = -1 := by rw [eL]; exact am_nm1 (by omega)
        have fL : farI L.2 = L.2 := by unfold farI; rw [if_neg nL]
        rw [fL]
        by_cases hlt : v < L.2
        · have hlt2 : ¬ L.2 ≤ v := Int32.not_le.mpr hlt
          rw [if_pos ⟨nv, Or.inr hlt⟩]
          dsimp only
          rw [fv]
          simp (disch := first | assumption | omega | rfl | exact Nat.le_of_ble_eq_true rfl | decide) only [r126_0, r126_1, r126_2, r126_5, r126_6, r126_7, r126_11, r126_12, r126_15, r126_18, r126_20, r126_21, r126_24, r126_25, r126_28, r126_30, r126_31, r126_34, r126_35, r126_38, r126_39, r126_40, r126_42, r126_45, r126_49, r126_50, r126_53, r126_55, r126_56, r126_59, r126_61, r126_64, r126_65, r126_66, r126_68, r126_69, r126_72, r126_74, r126_75, r126_78, r126_80, r126_83, r126_84, r126_85, r126_88, r126_91, r126_92, am_gf_42_6, am_gf_42_14, am_ai_52, am_nl_i, am_nl_r, am_nl_n, am_nl_l, Option.bind_some, Option.toList_some, Option.toList_none, List.cons_append, List.nil_append, if_true, if_false, Bool.false_eq_true, Int.reduceEq, Int.reduceAdd, ↓reduceIte, nv, hlt2, nI_1]
        · have hlt2 : L.2 ≤ v := Int32.not_lt.mp hlt
          rw [if_neg (fun q => q.2.elim nL hlt), fL]
          simp (disch := first | assumption | omega | rfl | exact Nat.le_of_ble_eq_true rfl | decide) only [r126_0, r126_1, r126_2, r126_5, r126_6, r126_7, r126_11, r126_12, r126_15, r126_18, r126_20, r126_21, r126_24, r126_25, r126_28, r126_30, r126_31, r126_34, r126_35, r126_38, r126_39, r126_40, r126_42, r126_45, r126_49, r126_50, r126_53, r126_55, r126_56, r126_59, r126_61, r126_64, r126_65, r126_66, r126_68, r126_69, r126_72, r126_74, r126_75, r126_78, r126_80, r126_83, r126_84, r126_85, r126_88, r126_91, r126_92, am_gf_42_6, am_gf_42_14, am_ai_52, am_nl_i, am_nl_r, am_nl_n, am_nl_l, Option.bind_some, Option.toList_some, Option.toList_none, List.cons_append, List.nil_append, if_true, if_false, Bool.false_eq_true, Int.reduceEq, Int.reduceAdd, ↓reduceIte, nv, hlt2, nI_1]
theorem m_kinOf {d p : Nat} {σ : am_St} {τ : Int64} {T : tS} (hR : RM σ T) (hW : WF T) (hp : p < s_n T) : ∃ σ' : am_St, am_call (d + 2) 126 [.ref 42, .int (nI p)] σ τ = some (some (.int (s_kn T p)), σ', τ) ∧ ∀ c, c ≠ 64 → c ≠ 65 → σ' c = σ c := by
  obtain ⟨σ', g1, g2⟩ := m_kin_loop (d := d) (τ := τ) hW hp (s_n T) 0 .null σ (by omega) hR
  refine ⟨σ', ?_, g2⟩
  show am_run (d + 2) 126 0 [.ref 42, .int (nI p), .null, .null, .null, .null] [] σ τ = _
  have e0 : nI 0 = 0 := rfl
  have e1 : (nlF (s_lv T) (s_ds T p) p 0).1 = -1 := rfl
  have e2 : farI (nlF (s_lv T) (s_ds T p) p 0).2 = 1000 := rfl
  rw [e0, e1, e2] at g1
  simp (disch := first | assumption | omega | rfl | exact Nat.le_of_ble_eq_true rfl | decide) only [r126_0, r126_1, r126_2, r126_5, r126_6, r126_7, r126_11, r126_12, r126_15, r126_18, r126_20, r126_21, r126_24, r126_25, r126_28, r126_30, r126_31, r126_34, r126_35, r126_38, r126_39, r126_40, r126_42, r126_45, r126_47, r126_49, r126_50, r126_53, r126_55, r126_56, r126_59, r126_61, r126_64, r126_65, r126_66, r126_68, r126_69, r126_72, r126_74, r126_75, r126_78, r126_80, r126_83, r126_84, r126_85, r126_88, r126_91, r126_92, am_gf_42_6, am_gf_42_14, am_ai_52, am_nl_i, am_nl_r, am_nl_n, am_nl_l, Option.bind_some, Option.toList_some, Option.toList_none, List.cons_append, List.nil_append, if_true, if_false, Bool.false_eq_true, Int.reduceEq, Int.reduceAdd, ↓reduceIte]
  exact g1
theorem m_kin {d : Nat} {σ : am_St} {τ : Int64} {T : tS} {p : Int32} (hR : RM σ T) (hW : WF T) : ∃ σ' : am_St, am_call (d + 3) 127 [.ref 42, .int p] σ τ = some (some (.int (sp_kin T p)), σ', τ) ∧ KM σ σ' := by
  show ∃ σ' : am_St, am_run (d + 3) 127 0 [.ref 42, .int p] [] σ τ = _ ∧ _
  unfold sp_kin
  cases hp : idx (s_n T) p with
  | none =>
    refine ⟨σ, ?_, KM.rf⟩
    simp (disch := first | assumption | omega | rfl | exact Nat.le_of_ble_eq_true rfl | decide) only [r127_0, r127_1, r127_2, r127_5, r127_8, r127_9, r127_10, r127_13, r127_16, r127_18, am_nl_i, am_nl_r, am_nl_n, am_nl_l, Option.bind_some, Option.toList_some, Option.toList_none, List.cons_append, List.nil_append, if_true, if_false, Bool.false_eq_true, Int.reduceEq, Int.reduceAdd, ↓reduceIte, m_isP_n hR.1 hW.1 hp]
  | some j =>
    obtain ⟨hj, rfl⟩ := idx_some hW.1 hp
    obtain ⟨σ', g1, g2⟩ := m_kinOf (d := d) (τ := τ) hR hW hj
    refine ⟨σ', ?_, KM.of (fun c hc => g2 c (by omega) (by omega))⟩
    simp (disch := first | assumption | omega | rfl | exact Nat.le_of_ble_eq_true rfl | decide) only [r127_0, r127_1, r127_2, r127_5, r127_8, r127_9, r127_10, r127_13, r127_16, r127_18, am_nl_i, am_nl_r, am_nl_n, am_nl_l, Option.bind_some, Option.toList_some, Option.toList_none, List.cons_append, List.nil_append, if_true, if_false, Bool.false_eq_true, Int.reduceEq, Int.reduceAdd, ↓reduceIte, m_isP_s hR.1 hW.1 hp, e10, g1]
theorem m_mayWed {d a b : Nat} {σ : am_St} {τ : Int64} {T : tS} (hR : RM σ T) (hW : WF T) (hnm : ∀ j, j < s_n T → σ 54 j = s_nm T j) (ha : a < s_n T) (hb : b < s_n T) : ∃ σ' : am_St, am_call (d + 2) 128 [.ref 42, .int (nI a), .int (nI b)] σ τ = some (some (.int (if s_my T a b = true then 1 else 0)), σ', τ) ∧ ∀ c, c ≠ 64 → c ≠ 65 → σ' c = σ c := by
  have h12 := hW.1
  have ha12 : a < 12 := by omega
  have hb12 : b < 12 := by omega
  obtain ⟨-, q47, -, -, -, -, q52, -⟩ := hR.2.1 a ha
  obtain ⟨-, p47, -, -, -, -, p52, -⟩ := hR.2.1 b hb
  have q54 := hnm a ha
  have p54 := hnm b hb
  have la := (hW.2.1 a ha).2.2.2.2
  have lb := (hW.2.1 b hb).2.2.2.2
  show ∃ σ' : am_St, am_run (d + 2) 128 0 [.ref 42, .int (nI a), .int (nI b), .null, .null] [] σ τ = _ ∧ _
  unfold s_my mayB
  by_cases h1 : s_sx T a = s_sx T b
  · refine ⟨σ, ?_, fun _ _ _ => rfl⟩
    rw [h1] at q47
    simp (disch := first | assumption | omega | rfl | exact Nat.le_of_ble_eq_true rfl | decide) only [r128_0, r128_1, r128_4, r128_5, r128_6, r128_7, r128_10, r128_11, r128_12, r128_15, r128_16, r128_19, r128_20, r128_21, r128_22, r128_25, r128_26, r128_29, r128_30, r128_31, r128_32, r128_35, r128_36, r128_39, r128_40, r128_41, r128_42, r128_45, r128_46, r128_47, r128_50, r128_51, r128_54, r128_55, r128_56, r128_57, r128_60, r128_61, r128_62, r128_63, r128_66, r128_69, r128_70, r128_72, r128_73, r128_76, r128_78, r128_79, r128_82, r128_84, r128_85, r128_88, r128_89, r128_92, r128_93, am_gf_42_9, am_gf_42_14, am_gf_42_16, am_ai_47, am_ai_52, am_ai_54, am_nl_i, am_nl_r, am_nl_n, am_nl_l, Option.bind_some, Option.toList_some, Option.toList_none, List.cons_append, List.nil_append, if_true, if_false, Bool.false_eq_true, Int.reduceEq, Int.reduceAdd, ↓reduceIte, q47, p47]
    simp [h1]
  · have h1' : ¬ σ 47 a = σ 47 b := by rw [q47, p47]; exact h1
    rcases la with h2 | h2
    · refine ⟨σ, ?_, fun _ _ _ => rfl⟩
      rw [h2] at q52
      have e01 : ¬ (0 : Int32) = 1 := by decide
      simp (disch := first | assumption | omega | rfl | exact Nat.le_of_ble_eq_true rfl | decide) only [r128_0, r128_1, r128_4, r128_5, r128_6, r128_7, r128_10, r128_11, r128_12, r128_15, r128_16, r128_19, r128_20, r128_21, r128_22, r128_25, r128_26, r128_29, r128_30, r128_31, r128_32, r128_35, r128_36, r128_39, r128_40, r128_41, r128_42, r128_45, r128_46, r128_47, r128_50, r128_51, r128_54, r128_55, r128_56, r128_57, r128_60, r128_61, r128_62, r128_63, r128_66, r128_69, r128_70, r128_72, r128_73, r128_76, r128_78, r128_79, r128_82, r128_84, r128_85, r128_88, r128_89, r128_92, r128_93, am_gf_42_9, am_gf_42_14, am_gf_42_16, am_ai_47, am_ai_52, am_ai_54, am_nl_i, am_nl_r, am_nl_n, am_nl_l, Option.bind_some, Option.toList_some, Option.toList_none, List.cons_append, List.nil_append, if_true, if_false, Bool.false_eq_true, Int.reduceEq, Int.reduceAdd, ↓reduceIte, h1', q52, e01]
      simp [h2]
    · rw [h2] at q52
      rcases lb with h3 | h3
      · refine ⟨σ, ?_, fun _ _ _ => rfl⟩
        rw [h3] at p52
        have e01 : ¬ (0 : Int32) = 1 := by decide
        simp (disch := first | assumption | omega | rfl | exact Nat.le_of_ble_eq_true rfl | decide) only [r128_0, r128_1, r128_4, r128_5, r128_6, r128_7, r128_10, r128_11, r128_12, r128_15, r128_16, r128_19, r128_20, r128_21, r128_22, r128_25, r128_26, r128_29, r128_30, r128_31, r128_32, r128_35, r128_36, r128_39, r128_40, r128_41, r128_42, r128_45, r128_46, r128_47, r128_50, r128_51, r128_54, r128_55, r128_56, r128_57, r128_60, r128_61, r128_62, r128_63, r128_66, r128_69, r128_70, r128_72, r128_73, r128_76, r128_78, r128_79, r128_82, r128_84, r128_85, r128_88, r128_89, r128_92, r128_93, am_gf_42_9, am_gf_42_14, am_gf_42_16, am_ai_47, am_ai_52, am_ai_54, am_nl_i, am_nl_r, am_nl_n, am_nl_l, Option.bind_some, Option.toList_some, Option.toList_none, List.cons_append, List.nil_append, if_true, if_false, Bool.false_eq_true, Int.reduceEq, Int.reduceAdd, ↓reduceIte, h1', q52, p52, e01]
        simp [h3]
      · rw [h3] at p52
        by_cases h4 : s_nm T a = s_nm T b
        · refine ⟨σ, ?_, fun _ _ _ => rfl⟩
          rw [h4] at q54
          simp (disch := first | assumption | omega | rfl | exact Nat.le_of_ble_eq_true rfl | decide) only [r128_0, r128_1, r128_4, r128_5, r128_6, r128_7, r128_10, r128_11, r128_12, r128_15, r128_16, r128_19, r128_20, r128_21, r128_22, r128_25, r128_26, r128_29, r128_30, r128_31, r128_32, r128_35, r128_36, r128_39, r128_40, r128_41, r128_42, r128_45, r128_46, r128_47, r128_50, r128_51, r128_54, r128_55, r128_56, r128_57, r128_60, r128_61, r128_62, r128_63, r128_66, r128_69, r128_70, r128_72, r128_73, r128_76, r128_78, r128_79, r128_82, r128_84, r128_85, r128_88, r128_89, r128_92, r128_93, am_gf_42_9, am_gf_42_14, am_gf_42_16, am_ai_47, am_ai_52, am_ai_54, am_nl_i, am_nl_r, am_nl_n, am_nl_l, Option.bind_some, Option.toList_some, Option.toList_none, List.cons_append, List.nil_append, if_true, if_false, Bool.false_eq_true, Int.reduceEq, Int.reduceAdd, ↓reduceIte, h1', q52, p52, q54, p54]
          simp [h4]
        · have h4' : ¬ σ 54 a = σ 54 b := by rw [q54, p54]; exact h4
          obtain ⟨σ', g1, g2⟩ := m_nearOf (d := d) (τ := τ) hR hW ha hb
          refine ⟨σ', ?_, g2⟩
          by_cases h5 : s_ds T a b = -1
          · rw [h5] at g1
            simp (disch := first | assumption | omega | rfl | exact Nat.le_of_ble_eq_true rfl | decide) only [r128_0, r128_1, r128_4, r128_5, r128_6, r128_7, r128_10, r128_11, r128_12, r128_15, r128_16, r128_19, r128_20, r128_21, r128_22, r128_25, r128_26, r128_29, r128_30, r128_31, r128_32, r128_35, r128_36, r128_39, r128_40, r128_41, r128_42, r128_45, r128_46, r128_47, r128_50, r128_51, r128_54, r128_55, r128_56, r128_57, r128_60, r128_61, r128_62, r128_63, r128_66, r128_69, r128_70, r128_72, r128_73, r128_76, r128_78, r128_79, r128_82, r128_84, r128_85, r128_88, r128_89, r128_92, r128_93, am_gf_42_9, am_gf_42_14, am_gf_42_16, am_ai_47, am_ai_52, am_ai_54, am_nl_i, am_nl_r, am_nl_n, am_nl_l, Option.bind_some, Option.toList_some, Option.toList_none, List.cons_append, List.nil_append, if_true, if_false, Bool.false_eq_true, Int.reduceEq, Int.reduceAdd, ↓reduceIte, h1', q52, p52, h4', e10, g1]
            simp [h1, h2, h3, h4, h5]
          · by_cases h6 : s_ds T a b ≤ 3
            · have h7 : ¬ 3 < s_ds T a b := Int32.not_lt.mpr h6
              simp (disch := first | assumption | omega | rfl | exact Nat.le_of_ble_eq_true rfl | decide) only [r128_0, r128_1, r128_4, r128_5, r128_6, r128_7, r128_10, r128_11, r128_12, r128_15, r128_16, r128_19, r128_20, r128_21, r128_22, r128_25, r128_26, r128_29, r128_30, r128_31, r128_32, r128_35, r128_36, r128_39, r128_40, r128_41, r128_42, r128_45, r128_46, r128_47, r128_50, r128_51, r128_54, r128_55, r128_56, r128_57, r128_60, r128_61, r128_62, r128_63, r128_66, r128_69, r128_70, r128_72, r128_73, r128_76, r128_78, r128_79, r128_82, r128_84, r128_85, r128_88, r128_89, r128_92, r128_93, am_gf_42_9, am_gf_42_14, am_gf_42_16, am_ai_47, am_ai_52, am_ai_54, am_nl_i, am_nl_r, am_nl_n, am_nl_l, Option.bind_some, Option.toList_some, Option.toList_none, List.cons_append, List.nil_append, if_true, if_false, Bool.false_eq_true, Int.reduceEq, Int.reduceAdd, ↓reduceIte, h1', q52, p52, h4', e10, g1, h5, h6]
              simp [h5, h7]
            · have h7 : 3 < s_ds T a b := Int32.not_le.mp h6
              simp (disch := first | assumption | omega | rfl | exact Nat.le_of_ble_eq_true rfl | decide) only [r128_0, r128_1, r128_4, r128_5, r128_6, r128_7, r128_10, r128_11, r128_12, r128_15, r128_16, r128_19, r128_20, r128_21, r128_22, r128_25, r128_26, r128_29, r128_30, r128_31, r128_32, r128_35, r128_36, r128_39, r128_40, r128_41, r128_42, r128_45, r128_46, r128_47, r128_50, r128_51, r128_54, r128_55, r128_56, r128_57, r128_60, r128_61, r128_62, r128_63, r128_66, r128_69, r128_70, r128_72, r128_73, r128_76, r128_78, r128_79, r128_82, r128_84, r128_85, r128_88, r128_89, r128_92, r128_93, am_gf_42_9, am_gf_42_14, am_gf_42_16, am_ai_47, am_ai_52, am_ai_54, am_nl_i, am_nl_r, am_nl_n, am_nl_l, Option.bind_some, Option.toList_some, Option.toList_none, List.cons_append, List.nil_append, if_true, if_false, Bool.false_eq_true, Int.reduceEq, Int.reduceAdd, ↓reduceIte, h1', q52, p52, h4', e10, g1, h5, h6]
              simp [h1, h2, h3, h4, h7]
theorem m_may {d : Nat} {σ : am_St} {τ : Int64} {T : tS} {a b : Int32} (hR : RM σ T) (hW : WF T) : ∃ σ' : am_St, am_call (d + 4) 129 [.ref 42, .int a, .int b] σ τ = some (some (.int (sp_may T a b)), σ', τ) ∧ KM σ σ' := by
  show ∃ σ' : am_St, am_run (d + 4) 129 0 [.ref 42, .int a, .int b] [] σ τ = _ ∧ _
  unfold sp_may
  have hn := hR.1
  have h12 := hW.1
  cases ha : idx (s_n T) a with
  | none =>
    refine ⟨σ, ?_, KM.rf⟩
    simp (disch := first | assumption | omega | rfl | exact Nat.le_of_ble_eq_true rfl | decide) only [r129_0, r129_1, r129_2, r129_5, r129_8, r129_9, r129_10, r129_13, r129_16, r129_18, r129_19, r129_20, r129_23, r129_24, r129_25, r129_26, r129_29, r129_32, r129_33, r129_36, r129_37, am_nl_i, am_nl_r, am_nl_n, am_nl_l, Option.bind_some, Option.toList_some, Option.toList_none, List.cons_append, List.nil_append, if_true, if_false, Bool.false_eq_true, Int.reduceEq, Int.reduceAdd, ↓reduceIte, m_isP_n hn h12 ha]
  | some i =>
    cases hb : idx (s_n T) b with
    | none =>
      refine ⟨σ, ?_, KM.rf⟩
      simp (disch := first | assumption | omega | rfl | exact Nat.le_of_ble_eq_true rfl | decide) only [r129_0, r129_1, r129_2, r129_5, r129_8, r129_9, r129_10, r129_13, r129_16, r129_18, r129_19, r129_20, r129_23, r129_24, r129_25, r129_26, r129_29, r129_32, r129_33, r129_36, r129_37, am_nl_i, am_nl_r, am_nl_n, am_nl_l, Option.bind_some, Option.toList_some, Option.toList_none, List.cons_append, List.nil_append, if_true, if_false, Bool.false_eq_true, Int.reduceEq, Int.reduceAdd, ↓reduceIte, m_isP_s hn h12 ha, m_isP_n hn h12 hb, e10]
    | some j =>
      obtain ⟨hi, rfl⟩ := idx_some h12 ha
      obtain ⟨hj, rfl⟩ := idx_some h12 hb
      obtain ⟨σ1, a1, a2, a3⟩ := m_rk (d := d) (τ := τ) hR hW
      have hR1 : RM σ1 T := hR.keep (KM.of (fun c hc => a2 c (by omega)))
      obtain ⟨σ', g1, g2⟩ := m_mayWed (d := d + 1) (τ := τ) hR1 hW a3 hi hj
      refine ⟨σ', ?_, KM.of (fun c hc => by rw [g2 c (by omega) (by omega), a2 c (by omega)])⟩
      cases hm : s_my T i j with
      | true =>
        rw [hm] at g1
        simp (disch := first | assumption | omega | rfl | exact Nat.le_of_ble_eq_true rfl | decide) only [r129_0, r129_1, r129_2, r129_5, r129_8, r129_9, r129_10, r129_13, r129_16, r129_18, r129_19, r129_20, r129_23, r129_24, r129_25, r129_26, r129_29, r129_32, r129_33, r129_36, r129_37, am_nl_i, am_nl_r, am_nl_n, am_nl_l, Option.bind_some, Option.toList_some, Option.toList_none, List.cons_append, List.nil_append, if_true, if_false, Bool.false_eq_true, Int.reduceEq, Int.reduceAdd, ↓reduceIte, m_isP_s hn h12 ha, m_isP_s hn h12 hb, e10, a1, g1, hm]
      | false =>
        rw [hm] at g1
        simp (disch := first | assumption | omega | rfl | exact Nat.le_of_ble_eq_true rfl | decide) only [r129_0, r129_1, r129_2, r129_5, r129_8, r129_9, r129_10, r129_13, r129_16, r129_18, r129_19, r129_20, r129_23, r129_24, r129_25, r129_26, r129_29, r129_32, r129_33, r129_36, r129_37, am_nl_i, am_nl_r, am_nl_n, am_nl_l, Option.bind_some, Option.toList_some, Option.toList_none, List.cons_append, List.nil_append, if_true, if_false, Bool.false_eq_true, Int.reduceEq, Int.reduceAdd, ↓reduceIte, m_isP_s hn h12 ha, m_isP_s hn h12 hb, e10, a1, g1, hm]
