/-! the search for couples: what it finds -/
theorem upB_t {A : Nat → Bool} {i w : Nat} (h : A w = true) : upB A i w = true := by
  unfold upB; split
  · rfl
  · exact h
theorem upB_s {A : Nat → Bool} {i : Nat} : upB A i i = true := by unfold upB; rw [if_pos rfl]
theorem upB_n {A : Nat → Bool} {i w : Nat} (h : w ≠ i) : upB A i w = A w := by unfold upB; rw [if_neg h]
theorem upM_s {M : Nat → Option Nat} {i m : Nat} : upM M i m i = some m := by unfold upM; rw [if_pos rfl]
theorem upM_n {M : Nat → Option Nat} {i m w : Nat} (h : w ≠ i) : upM M i m w = M w := by unfold upM; rw [if_neg h]
theorem fwL_s (ad : Nat → Nat → Bool) (rc : Nat → (Nat → Bool) → (Nat → Option Nat) → fwR) (m k i : Nat) (A : Nat → Bool) (M : Nat → Option Nat) : fwL ad rc m (k + 1) i A M = if ad m i = true ∧ A i = false then (match M i with
      | none => (true, upB A i, upM M i m)
      | some h => if (rc h (upB A i) M).1 = true then (true, (rc h (upB A i) M).2.1, upM (rc h (upB A i) M).2.2 i m) else fwL ad rc m k (i + 1) (rc h (upB A i) M).2.1 (rc h (upB A i) M).2.2)
    else fwL ad rc m k (i + 1) A M := rfl
section FW
variable {n : Nat} {ad : Nat → Nat → Bool}
theorem fwL_mono {rc : Nat → (Nat → Bool) → (Nat → Option Nat) → fwR} {m : Nat} (hrc : ∀ h A M w, A w = true → (rc h A M).2.1 w = true) : ∀ k i A M w, A w = true → (fwL ad rc m k i A M).2.1 w = true := by
  intro k
  induction k with
  | zero => intro i A M w h; exact h
  | succ k ih =>
    intro i A M w h
    rw [fwL_s]
    by_cases hx : ad m i = true ∧ A i = false
    · rw [if_pos hx]
      cases hM : M i with
      | none => exact upB_t h
      | some x =>
        dsimp only
        by_cases hb : (rc x (upB A i) M).1 = true
        · rw [if_pos hb]; exact hrc _ _ _ _ (upB_t h)
        · rw [if_neg hb]; exact ih _ _ _ _ (hrc _ _ _ _ (upB_t h))
    · rw [if_neg hx]; exact ih _ _ _ _ h
theorem fw_mono : ∀ e m A M w, A w = true → (fwF n ad e m A M).2.1 w = true := by
  intro e
  induction e with
  | zero => intro m A M w h; exact h
  | succ e ih => intro m A M w h; exact fwL_mono ih n 0 A M w h
theorem fwL_fail {rc : Nat → (Nat → Bool) → (Nat → Option Nat) → fwR} {m : Nat} (hrc : ∀ h A M, ¬ (rc h A M).1 = true → (rc h A M).2.2 = M) : ∀ k i A M, ¬ (fwL ad rc m k i A M).1 = true → (fwL ad rc m k i A M).2.2 = M := by
  intro k
  induction k with
  | zero => intro i A M _; rfl
  | succ k ih =>
    intro i A M h
    rw [fwL_s] at h ⊢
    by_cases hx : ad m i = true ∧ A i = false
    · rw [if_pos hx] at h ⊢
      cases hM : M i with
      | none => rw [hM] at h; exact absurd rfl h
      | some x =>
        rw [hM] at h
        dsimp only at h ⊢
        by_cases hb : (rc x (upB A i) M).1 = true
        · rw [if_pos hb] at h; exact absurd rfl h
        · rw [if_neg hb] at h ⊢
          rw [hrc _ _ _ hb] at h ⊢
          exact ih _ _ _ h
    · rw [if_neg hx] at h ⊢; exact ih _ _ _ h
theorem fw_fail : ∀ e m A M, ¬ (fwF n ad e m A M).1 = true → (fwF n ad e m A M).2.2 = M := by
  intro e
  induction e with
  | zero => intro m A M _; rfl
  | succ e ih => intro m A M h; exact fwL_fail ih n 0 A M h
/-- what a good search gives: of the women off the path -/
def FWok (n : Nat) (ad : Nat → Nat → Bool) (m : Nat) (A : Nat → Bool) (M : Nat → Option Nat) (r : fwR) : Prop := ∀ Pt : Nat → Prop, (∀ w, Pt w → A w = true) → (∀ w1 w2 h, w1 < n → w2 < n → ¬ Pt w1 → ¬ Pt w2 → M w1 = some h → M w2 = some h → w1 = w2) → (∀ w, w < n → ¬ Pt w → M w ≠ some m) → r.1 = true →
  (∀ w, A w = true → r.2.2 w = M w) ∧ (∀ w1 w2 h, w1 < n → w2 < n → ¬ Pt w1 → ¬ Pt w2 → r.2.2 w1 = some h → r.2.2 w2 = some h → w1 = w2) ∧ (∀ x, (∃ w, w < n ∧ ¬ Pt w ∧ r.2.2 w = some x) ↔ (∃ w, w < n ∧ ¬ Pt w ∧ M w = some x) ∨ x = m) ∧ ∀ w h, w < n → r.2.2 w = some h → M w = some h ∨ (ad h w = true ∧ A w = false)
theorem fwL_ok {rc : Nat → (Nat → Bool) → (Nat → Option Nat) → fwR} {m : Nat} (hmono : ∀ h A M w, A w = true → (rc h A M).2.1 w = true) (hfail : ∀ h A M, ¬ (rc h A M).1 = true → (rc h A M).2.2 = M) (hrc : ∀ h A M, FWok n ad h A M (rc h A M)) : ∀ k i A M, i + k = n → FWok n ad m A M (fwL ad rc m k i A M) := by
  intro k
  induction k with
  | zero => intro i A M _ Pt _ _ _ h; cases h
  | succ k ih =>
    intro i A M hik Pt hPA hinj hfree hr
    have hin : i < n := by omega
    rw [fwL_s] at hr ⊢
    by_cases hx : ad m i = true ∧ A i = false
    · rw [if_pos hx] at hr ⊢
      have hPi : ¬ Pt i := fun q => by rw [hPA i q] at hx; exact absurd hx.2 (by decide)
      cases hM : M i with
      | none =>
        dsimp only
        refine ⟨fun w hw => upM_n (by intro e; subst e; rw [hw] at hx; exact absurd hx.2 (by decide)), ?_, ?_, ?_⟩
        · intro w1 w2 h a1 a2 b1 b2 c1 c2
          by_cases e1 : w1 = i
          · by_cases e2 : w2 = i
            · rw [e1, e2]
            · rw [e1, upM_s] at c1
              rw [upM_n e2] at c2
              cases c1
              exact absurd c2 (hfree w2 a2 b2)
          · by_cases e2 : w2 = i
            · rw [e2, upM_s] at c2
              rw [upM_n e1] at c1
              cases c2
              exact absurd c1 (hfree w1 a1 b1)
            · rw [upM_n e1] at c1
              rw [upM_n e2] at c2
              exact hinj w1 w2 h a1 a2 b1 b2 c1 c2
        · intro x
          constructor
          · rintro ⟨w, a, b, c⟩
            by_cases e1 : w = i
            · rw [e1, upM_s] at c; cases c; exact Or.inr rfl
            · rw [upM_n e1] at c; exact Or.inl ⟨w, a, b, c⟩
          · rintro (⟨w, a, b, c⟩ | rfl)
            · refine ⟨w, a, b, ?_⟩
              rw [upM_n (by intro e; subst e; rw [hM] at c; cases c)]
              exact c
            · exact ⟨i, hin, hPi, upM_s⟩
        · intro w h a c
          by_cases e1 : w = i
          · subst e1; rw [upM_s] at c; cases c; exact Or.inr hx
          · rw [upM_n e1] at c; exact Or.inl c
      | some h =>
        rw [hM] at hr
        dsimp only at hr ⊢
        by_cases hb : (rc h (upB A i) M).1 = true
        · rw [if_pos hb]
          dsimp only
          have hmi : m ≠ h := fun e => hfree i hin hPi (by rw [hM, e])
          obtain ⟨q1, q2, q3, q4⟩ := hrc h (upB A i) M (fun w => Pt w ∨ w = i) (fun w hw => by
            rcases hw with hw | rfl
            · exact upB_t (hPA w hw)
            · exact upB_s) (fun w1 w2 x a1 a2 b1 b2 => hinj w1 w2 x a1 a2 (fun q => b1 (Or.inl q)) (fun q => b2 (Or.inl q))) (fun w a b c => b (Or.inr (hinj w i h a hin (fun q => b (Or.inl q)) hPi c hM))) hb
          have keep : ∀ w, w ≠ i → upM (rc h (upB A i) M).2.2 i m w = (rc h (upB A i) M).2.2 w := fun w e => upM_n e
          have mno : ∀ w, w < n → ¬ Pt w → w ≠ i → (rc h (upB A i) M).2.2 w ≠ some m := by
            intro w a b e c
            rcases (q3 m).mp ⟨w, a, fun q => q.elim b e, c⟩ with ⟨w2, a2, b2, c2⟩ | e2
            · exact hfree w2 a2 (fun q => b2 (Or.inl q)) c2
            · exact hmi e2
          refine ⟨fun w hw => ?_, ?_, ?_, ?_⟩
          · have e : w ≠ i := by intro e; subst e; rw [hw] at hx; exact absurd hx.2 (by decide)
            rw [keep w e]
            exact q1 w (upB_t hw)
          · intro w1 w2 x a1 a2 b1 b2 c1 c2
            by_cases e1 : w1 = i
            · by_cases e2 : w2 = i
              · rw [e1, e2]
              · rw [e1, upM_s] at c1
                rw [keep w2 e2] at c2
                cases c1
                exact absurd c2 (mno w2 a2 b2 e2)
            · by_cases e2 : w2 = i
              · rw [e2, upM_s] at c2
                rw [keep w1 e1] at c1
                cases c2
                exact absurd c1 (mno w1 a1 b1 e1)
              · rw [keep w1 e1] at c1
                rw [keep w2 e2] at c2
                exact q2 w1 w2 x a1 a2 (fun q => q.elim b1 e1) (fun q => q.elim b2 e2) c1 c2
          · intro x
            constructor
            · rintro ⟨w, a, b, c⟩
              by_cases e1 : w = i
              · rw [e1, upM_s] at c; cases c; exact Or.inr rfl
              · rw [keep w e1] at c
                rcases (q3 x).mp ⟨w, a, fun q => q.elim b e1, c⟩ with ⟨w2, a2, b2, c2⟩ | rfl
                · exact Or.inl ⟨w2, a2, fun q => b2 (Or.inl q), c2⟩
                · exact Or.inl ⟨i, hin, hPi, hM⟩
            · rintro (⟨w, a, b, c⟩ | rfl)
              · have : ∃ w', w' < n ∧ ¬ (Pt w' ∨ w' = i) ∧ (rc h (upB A i) M).2.2 w' = some x := by
                  apply (q3 x).mpr
                  by_cases e1 : w = i
                  · subst e1; rw [hM] at c; cases c; exact Or.inr rfl
                  · exact Or.inl ⟨w, a, fun q => q.elim b e1, c⟩
                obtain ⟨w2, a2, b2, c2⟩ := this
                exact ⟨w2, a2, fun q => b2 (Or.inl q), by rw [keep w2 (fun e => b2 (Or.inr e))]; exact c2⟩
              · exact ⟨i, hin, hPi, upM_s⟩
          · intro w x a c
            by_cases e1 : w = i
            · subst e1; rw [upM_s] at c; cases c; exact Or.inr hx
            · rw [keep w e1] at c
              rcases q4 w x a c with q | ⟨p1, p2⟩
              · exact Or.inl q
              · rw [upB_n e1] at p2; exact Or.inr ⟨p1, p2⟩
        · rw [if_neg hb] at hr ⊢
          have hf := hfail _ _ _ hb
          rw [hf] at hr ⊢
          obtain ⟨q1, q2, q3, q4⟩ := ih (i + 1) (rc h (upB A i) M).2.1 M (by omega) Pt (fun w hw => hmono _ _ _ _ (upB_t (hPA w hw))) hinj hfree hr
          refine ⟨fun w hw => q1 w (hmono _ _ _ _ (upB_t hw)), q2, q3, fun w x a c => ?_⟩
          rcases q4 w x a c with q | ⟨p1, p2⟩
          · exact Or.inl q
          · refine Or.inr ⟨p1, ?_⟩
            cases hA : A w with
            | false => rfl
            | true => rw [hmono _ _ _ _ (upB_t hA)] at p2; cases p2
    · rw [if_neg hx] at hr ⊢
      exact ih (i + 1) A M (by omega) Pt hPA hinj hfree hr
theorem fw_ok : ∀ e m A M, FWok n ad m A M (fwF n ad e m A M) := by
  intro e
  induction e with
  | zero => intro m A M Pt _ _ _ h; cases h
  | succ e ih => intro m A M; exact fwL_ok (fw_mono e) (fw_fail e) ih n 0 A M (by omega)
/-- a search that finds nothing has asked all whom it could -/
def FWcl (n : Nat) (ad : Nat → Nat → Bool) (m i0 : Nat) (A : Nat → Bool) (M : Nat → Option Nat) (r : fwR) : Prop := ¬ r.1 = true → (∀ w, i0 ≤ w → w < n → ad m w = true → r.2.1 w = true) ∧ ∀ w, w < n → r.2.1 w = true → A w = false → ∃ h, M w = some h ∧ ∀ w2, w2 < n → ad h w2 = true → r.2.1 w2 = true
theorem cntN_mono {A A' : Nat → Bool} (h : ∀ w, A w = true → A' w = true) (n : Nat) : cnt (fun w => !A' w) n ≤ cnt (fun w => !A w) n := by
  induction n with
  | zero => exact Nat.le_refl 0
  | succ n ih =>
    rw [cnt_s, cnt_s]
    cases hA : A n with
    | true => simp [h n hA]; exact ih
    | false => cases A' n <;> simp <;> omega
theorem cntN_up {A : Nat → Bool} {i : Nat} (hA : A i = false) : ∀ n, i < n → cnt (fun w => !upB A i w) n + 1 ≤ cnt (fun w => !A w) n := by
  intro n
  induction n with
  | zero => intro h; omega
  | succ n ih =>
    intro h
    rw [cnt_s, cnt_s]
    by_cases e : i = n
    · subst e
      have := cntN_mono (A := A) (A' := upB A i) (fun w hw => upB_t hw) i
      rw [upB_s, hA]
      simp
      exact this
    · have := ih (by omega)
      rw [upB_n (by omega)]
      omega
theorem fwL_cl {rc : Nat → (Nat → Bool) → (Nat → Option Nat) → fwR} {m e : Nat} (hmono : ∀ h A M w, A w = true → (rc h A M).2.1 w = true) (hfail : ∀ h A M, ¬ (rc h A M).1 = true → (rc h A M).2.2 = M) (hrc : ∀ h A M, cnt (fun w => !A w) n + 1 ≤ e → FWcl n ad h 0 A M (rc h A M)) : ∀ k i A M, i + k = n → cnt (fun w => !A w) n ≤ e → FWcl n ad m i A M (fwL ad rc m k i A M) := by
  intro k
  induction k with
  | zero =>
    intro i A M hik _ _
    refine ⟨fun w h1 h2 _ => by omega, fun w hw h1 h2 => ?_⟩
    have h1' : A w = true := h1
    rw [h1'] at h2; cases h2
  | succ k ih =>
    intro i A M hik he hr
    have hin : i < n := by omega
    have hmL := fwL_mono (ad := ad) (m := m) hmono
    rw [fwL_s] at hr ⊢
    by_cases hx : ad m i = true ∧ A i = false
    · rw [if_pos hx] at hr ⊢
      cases hM : M i with
      | none => rw [hM] at hr; exact absurd rfl hr
      | some h =>
        rw [hM] at hr
        dsimp only at hr ⊢
        by_cases hb : (rc h (upB A i) M).1 = true
        · rw [if_pos hb] at hr; exact absurd rfl hr
        · rw [if_neg hb] at hr ⊢
          have hf := hfail _ _ _ hb
          rw [hf] at hr ⊢
          have hup := cntN_up hx.2 n hin
          obtain ⟨c1, c2⟩ := hrc h (upB A i) M (by omega) hb
          have hle := cntN_mono (A := upB A i) (A' := (rc h (upB A i) M).2.1) (fun w hw => hmono _ _ _ _ hw) n
          obtain ⟨q1, q2⟩ := ih (i + 1) (rc h (upB A i) M).2.1 M (by omega) (by omega) hr
          have mon := hmL k (i + 1) (rc h (upB A i) M).2.1 M
          refine ⟨fun w h1 h2 h3 => ?_, fun w hw h1 h2 => ?_⟩
          · by_cases e1 : w = i
            · subst e1; exact mon w (hmono _ _ _ _ upB_s)
            · exact q1 w (by omega) h2 h3
          · by_cases h3 : (rc h (upB A i) M).2.1 w = true
            · by_cases e1 : w = i
              · subst e1
                exact ⟨h, hM, fun w2 a b => mon w2 (c1 w2 (by omega) a b)⟩
              · obtain ⟨y, y1, y2⟩ := c2 w hw h3 (by rw [upB_n e1]; exact h2)
                exact ⟨y, y1, fun w2 a b => mon w2 (y2 w2 a b)⟩
            · exact q2 w hw h1 (by simpa using h3)
    · rw [if_neg hx] at hr ⊢
      obtain ⟨q1, q2⟩ := ih (i + 1) A M (by omega) he hr
      refine ⟨fun w h1 h2 h3 => ?_, q2⟩
      by_cases e1 : w = i
      · subst e1
        apply hmL
        cases hA : A w with
        | true => rfl
        | false => exact absurd ⟨h3, hA⟩ hx
      · exact q1 w (by omega) h2 h3
theorem fw_cl : ∀ e m A M, cnt (fun w => !A w) n + 1 ≤ e → FWcl n ad m 0 A M (fwF n ad e m A M) := by
  intro e
  induction e with
  | zero => intro m A M h; omega
  | succ e ih => intro m A M h; exact fwL_cl (e := e) (fw_mono e) (fw_fail e) ih n 0 A M (by omega) (by omega)
/-- closed women stay as they are -/
def FWim (n : Nat) (ad : Nat → Nat → Bool) (m : Nat) (A : Nat → Bool) (M : Nat → Option Nat) (r : fwR) : Prop := ∀ (U : Nat → Bool) (X C : Nat → Prop), (∀ w, U w = true → A w = true) → (∀ x, X x → ∀ w, w < n → ad x w = true → U w = false → C w) → (∀ w, w < n → C w → ∃ h, M w = some h ∧ X h) → (X m → ¬ r.1 = true) ∧ ∀ w, w < n → C w → r.2.2 w = M w
theorem fwL_im {rc : Nat → (Nat → Bool) → (Nat → Option Nat) → fwR} {m : Nat} (hmono : ∀ h A M w, A w = true → (rc h A M).2.1 w = true) (hfail : ∀ h A M, ¬ (rc h A M).1 = true → (rc h A M).2.2 = M) (hrc : ∀ h A M, FWim n ad h A M (rc h A M)) : ∀ k i A M, i + k = n → FWim n ad m A M (fwL ad rc m k i A M) := by
  intro k
  induction k with
  | zero => intro i A M _ U X C _ _ _; exact ⟨fun _ h => (by cases h), fun _ _ _ => rfl⟩
  | succ k ih =>
    intro i A M hik U X C hU hX hC
    have hin : i < n := by omega
    rw [fwL_s]
    by_cases hx : ad m i = true ∧ A i = false
    · rw [if_pos hx]
      have hUi : U i = false := by
        cases h : U i with
        | false => rfl
        | true => rw [hU i h] at hx; exact absurd hx.2 (by decide)
      cases hM : M i with
      | none =>
        dsimp only
        have hnC : ¬ C i := fun q => by obtain ⟨h, h1, -⟩ := hC i hin q; rw [hM] at h1; cases h1
        refine ⟨fun hXm => absurd (hX m hXm i hin hx.1 hUi) hnC, fun w hw hc => upM_n (by intro e; subst e; exact hnC hc)⟩
      | some h =>
        dsimp only
        obtain ⟨c1, c2⟩ := hrc h (upB A i) M U X C (fun w hw => upB_t (hU w hw)) hX hC
        by_cases hb : (rc h (upB A i) M).1 = true
        · rw [if_pos hb]
          dsimp only
          have hnC : ¬ C i := fun q => by
            obtain ⟨h', h1, h2⟩ := hC i hin q
            rw [hM] at h1; cases h1
            exact c1 h2 hb
          refine ⟨fun hXm => absurd (hX m hXm i hin hx.1 hUi) hnC, fun w hw hc => ?_⟩
          rw [upM_n (by intro e; subst e; exact hnC hc)]
          exact c2 w hw hc
        · rw [if_neg hb, hfail _ _ _ hb]
          exact ih (i + 1) _ M (by omega) U X C (fun w hw => hmono _ _ _ _ (upB_t (hU w hw))) hX hC
    · rw [if_neg hx]
      exact ih (i + 1) A M (by omega) U X C hU hX hC
theorem fw_im : ∀ e m A M, FWim n ad m A M (fwF n ad e m A M) := by
  intro e
  induction e with
  | zero => intro m A M U X C _ _ _; exact ⟨fun _ h => (by cases h), fun _ _ _ => rfl⟩
  | succ e ih => intro m A M; exact fwL_im (fw_mono e) (fw_fail e) ih n 0 A M (by omega)
end FW
