/-! class and reference agree at each call -/
theorem RM.keep2 {σ σ' : am_St} {T : tS} (h : RM σ T) (hk : ∀ c, 42 ≤ c → σ' c = σ c) : RM σ' T := by
  obtain ⟨h1, h2, h3, h4, h5, h6, h7, h8⟩ := h
  unfold RM
  rw [hk 42 (by omega), hk 46 (by omega), hk 47 (by omega), hk 48 (by omega), hk 49 (by omega), hk 50 (by omega), hk 51 (by omega), hk 52 (by omega), hk 53 (by omega), hk 44 (by omega), hk 43 (by omega), hk 69 (by omega)]
  exact ⟨h1, h2, h3, h4, h5, h6, h7, h8⟩
/-- from every state that both hold: both answer the same, and both hold the same state behind it -/
def Agr (q1 q2 : Nat) (as : List Value) (R : Type) (mkv : R → Value) : Prop := ∀ (σ : am_St) (τ : Int64) (T : tS), RC σ T → RM σ T → WF T → ∃ (v : R) (σ1 : am_St) (τ1 : Int64) (σ2 : am_St) (τ2 : Int64) (T' : tS), am_call 20 q1 (.ref 0 :: as) σ τ = some (some (mkv v), σ1, τ1) ∧ am_call 20 q2 (.ref 42 :: as) σ1 τ1 = some (some (mkv v), σ2, τ2) ∧ RC σ2 T' ∧ RM σ2 T' ∧ WF T'
theorem ag_letters (w : Int64) : Agr 51 83 [.long w] Int32 .int := fun σ τ T hR hM hW => by
  obtain ⟨σ1, a1, a2, a3⟩ := c_letters (d := 19) (τ := τ) (w := w) hR hW
  have hM1 : RM σ1 T := hM.keep2 a3
  obtain ⟨σ2, b1, b2, b3⟩ := m_letters (d := 20) (τ := τ) (w := w) hM1 hW
  exact ⟨_, σ1, τ, σ2, τ, _, a1, b1, a2.keep (fun c hc => b3 c (by omega)), b2, hW.letters⟩
theorem ag_blank : Agr 52 84 [] Int32 .int := fun σ τ T hR hM hW => by
  obtain ⟨σ1, a1, a2, a3⟩ := c_blank (d := 20) (τ := τ) hR
  have hM1 : RM σ1 T := hM.keep2 a3
  obtain ⟨σ2, b1, b2, b3⟩ := m_blank (d := 20) (τ := τ) hM1
  exact ⟨_, σ1, τ, σ2, τ, _, a1, b1, a2.keep (fun c hc => b3 c (by omega)), b2, hW.blank⟩
theorem ag_fault : Agr 53 88 [] Int32 .int := fun σ τ T hR hM hW => by
  have a1 := c_fault (d := 17) (τ := τ) hR hW
  have a2 := hR
  have hM1 := hM
  obtain ⟨σ2, b1, b2, b3⟩ := m_fault (d := 17) (τ := τ) hM1 hW
  exact ⟨_, σ, τ, σ2, τ, _, a1, b1, a2.keep (fun c hc => b3 c (by omega)), b2, hW⟩
theorem ag_law : Agr 54 89 [] Int32 .int := fun σ τ T hR hM hW => by
  obtain ⟨σ1, a1, a2, a3⟩ := c_law (d := 15) (τ := τ) hR hW
  have hM1 : RM σ1 T := hM.keep2 a3
  obtain ⟨σ2, b1, b2, b3⟩ := m_law (d := 17) (τ := τ) hM1 hW
  exact ⟨_, σ1, τ, σ2, τ, _, a1, b1, a2.keep (fun c hc => b3 c (by omega)), b2, hW.law⟩
theorem ag_lawTold (x : Int32) : Agr 55 90 [.int x] Int32 .int := fun σ τ T hR hM hW => by
  have a1 := c_lawTold (d := 20) (τ := τ) (x := x) hR
  have a2 := hR
  have hM1 := hM
  have b1 := m_lawTold (d := 19) (τ := τ) (x := x) hM1
  exact ⟨_, σ, τ, σ, τ, _, a1, b1, a2, hM1, hW⟩
theorem ag_person (k : Int32) (s : Int32) (f : Int32) (m : Int32) (z : Int32) : Agr 56 95 [.int k, .int s, .int f, .int m, .int z] Int32 .int := fun σ τ T hR hM hW => by
  obtain ⟨σ1, a1, a2, a3⟩ := c_person (d := 15) (τ := τ) (k := k) (s := s) (f := f) (m := m) (z := z) hR hW
  have hM1 : RM σ1 T := hM.keep2 a3
  obtain ⟨σ2, b1, b2, b3⟩ := m_person (d := 17) (τ := τ) (k := k) (s := s) (f := f) (m := m) (z := z) hM1 hW
  exact ⟨_, σ1, τ, σ2, τ, _, a1, b1, a2.keep (fun c hc => b3 c (by omega)), b2, hW.person⟩
theorem ag_about (p : Int32) (x : Int32) : Agr 57 105 [.int p, .int x] Int32 .int := fun σ τ T hR hM hW => by
  have a1 := c_about (d := 19) (τ := τ) (p := p) (x := x) hR hW
  have a2 := hR
  have hM1 := hM
  obtain ⟨σ2, b1, b2⟩ := m_about (d := 15) (τ := τ) (p := p) (x := x) hM1 hW
  exact ⟨_, σ, τ, σ2, τ, _, a1, b1, a2.keep (fun c hc => b2.1 c (by omega)), hM1.keep b2, hW⟩
theorem ag_as (p : Int32) (k : Int32) : Agr 58 106 [.int p, .int k] Int32 .int := fun σ τ T hR hM hW => by
  have a1 := c_as (d := 19) (τ := τ) (p := p) (k := k) hR hW
  have a2 := hR
  have hM1 := hM
  have b1 := m_as (d := 18) (τ := τ) (p := p) (k := k) hM1 hW
  exact ⟨_, σ, τ, σ, τ, _, a1, b1, a2, hM1, hW⟩
theorem ag_call (p : Int32) (v : Int32) : Agr 59 107 [.int p, .int v] Int32 .int := fun σ τ T hR hM hW => by
  obtain ⟨σ1, a1, a2, a3⟩ := c_call (d := 15) (τ := τ) (p := p) (v := v) hR hW
  have hM1 : RM σ1 T := hM.keep2 a3
  obtain ⟨σ2, b1, b2, b3⟩ := m_call (d := 18) (τ := τ) (p := p) (v := v) hM1 hW
  exact ⟨_, σ1, τ, σ2, τ, _, a1, b1, a2.keep (fun c hc => b3 c (by omega)), b2, hW.call⟩
theorem ag_write (p : Int32) (v : Int32) : Agr 60 108 [.int p, .int v] Int32 .int := fun σ τ T hR hM hW => by
  obtain ⟨σ1, a1, a2, a3⟩ := c_write (d := 19) (τ := τ) (p := p) (v := v) hR hW
  have hM1 : RM σ1 T := hM.keep2 a3
  obtain ⟨σ2, b1, b2, b3⟩ := m_write (d := 18) (τ := τ) (p := p) (v := v) hM1 hW
  exact ⟨_, σ1, τ, σ2, τ, _, a1, b1, a2.keep (fun c hc => b3 c (by omega)), b2, hW.write⟩
theorem ag_dies (p : Int32) : Agr 61 110 [.int p] Int32 .int := fun σ τ T hR hM hW => by
  obtain ⟨σ1, a1, a2, a3⟩ := c_dies (d := 19) (τ := τ) (p := p) hR hW
  have hM1 : RM σ1 T := hM.keep2 a3
  obtain ⟨σ2, b1, b2, b3⟩ := m_dies (d := 18) (τ := τ) (p := p) hM1 hW
  exact ⟨_, σ1, τ, σ2, τ, _, a1, b1, a2.keep (fun c hc => b3 c (by omega)), b2, hW.dies⟩
theorem ag_wrong (x : Int32) : Agr 62 112 [.int x] Int32 .int := fun σ τ T hR hM hW => by
  have a1 := c_wrong (d := 18) (τ := τ) (x := x) hR hW
  have a2 := hR
  have hM1 := hM
  obtain ⟨σ2, b1, b2⟩ := m_wrong (d := 15) (τ := τ) (x := x) hM1 hW
  exact ⟨_, σ, τ, σ2, τ, _, a1, b1, a2.keep (fun c hc => b2.1 c (by omega)), hM1.keep b2, hW⟩
theorem ag_mended (x : Int32) : Agr 63 114 [.int x] Int32 .int := fun σ τ T hR hM hW => by
  obtain ⟨σ1, a1, a2, a3⟩ := c_mended (d := 15) (τ := τ) (x := x) hR hW
  have hM1 : RM σ1 T := hM.keep2 a3
  obtain ⟨σ2, b1, b2, b3⟩ := m_mended (d := 17) (τ := τ) (x := x) hM1 hW
  exact ⟨_, σ1, τ, σ2, τ, _, a1, b1, a2.keep (fun c hc => b3 c (by omega)), b2, hW.mended⟩
theorem ag_ways : Agr 64 117 [] Int32 .int := fun σ τ T hR hM hW => by
  obtain ⟨σ1, a1, a2, a3⟩ := c_ways (d := 15) (τ := τ) hR hW
  have hM1 : RM σ1 T := hM.keep2 a3
  obtain ⟨σ2, b1, b2⟩ := m_ways (d := 16) (τ := τ) hM1 hW
  exact ⟨_, σ1, τ, σ2, τ, _, a1, b1, a2.keep (fun c hc => b2.1 c (by omega)), hM1.keep b2, hW⟩
theorem ag_sure (p : Int32) : Agr 65 119 [.int p] Int32 .int := fun σ τ T hR hM hW => by
  obtain ⟨σ1, a1, a2, a3⟩ := c_sure (d := 15) (τ := τ) (p := p) hR hW
  have hM1 : RM σ1 T := hM.keep2 a3
  obtain ⟨σ2, b1, b2⟩ := m_sure (d := 16) (τ := τ) (p := p) hM1 hW
  exact ⟨_, σ1, τ, σ2, τ, _, a1, b1, a2.keep (fun c hc => b2.1 c (by omega)), hM1.keep b2, hW⟩
theorem ag_laws (x : Int32) : Agr 66 122 [.int x] Int32 .int := fun σ τ T hR hM hW => by
  obtain ⟨σ1, a1, a2, a3⟩ := c_laws (d := 15) (τ := τ) (x := x) hR hW
  have hM1 : RM σ1 T := hM.keep2 a3
  obtain ⟨σ2, b1, b2⟩ := m_laws (d := 15) (τ := τ) (x := x) hM1 hW
  exact ⟨_, σ1, τ, σ2, τ, _, a1, b1, a2.keep (fun c hc => b2.1 c (by omega)), hM1.keep b2, hW⟩
theorem ag_near (a : Int32) (b : Int32) : Agr 67 125 [.int a, .int b] Int32 .int := fun σ τ T hR hM hW => by
  have a1 := c_near (d := 18) (τ := τ) (a := a) (b := b) hR hW
  have a2 := hR
  have hM1 := hM
  obtain ⟨σ2, b1, b2⟩ := m_near (d := 18) (τ := τ) (a := a) (b := b) hM1 hW
  exact ⟨_, σ, τ, σ2, τ, _, a1, b1, a2.keep (fun c hc => b2.1 c (by omega)), hM1.keep b2, hW⟩
theorem ag_kin (p : Int32) : Agr 68 127 [.int p] Int32 .int := fun σ τ T hR hM hW => by
  have a1 := c_kin (d := 17) (τ := τ) (p := p) hR hW
  have a2 := hR
  have hM1 := hM
  obtain ⟨σ2, b1, b2⟩ := m_kin (d := 17) (τ := τ) (p := p) hM1 hW
  exact ⟨_, σ, τ, σ2, τ, _, a1, b1, a2.keep (fun c hc => b2.1 c (by omega)), hM1.keep b2, hW⟩
theorem ag_may (a : Int32) (b : Int32) : Agr 69 129 [.int a, .int b] Int32 .int := fun σ τ T hR hM hW => by
  have a1 := c_may (d := 17) (τ := τ) (a := a) (b := b) hR hW
  have a2 := hR
  have hM1 := hM
  obtain ⟨σ2, b1, b2⟩ := m_may (d := 16) (τ := τ) (a := a) (b := b) hM1 hW
  exact ⟨_, σ, τ, σ2, τ, _, a1, b1, a2.keep (fun c hc => b2.1 c (by omega)), hM1.keep b2, hW⟩
theorem ag_couples (x : Int32) : Agr 70 132 [.int x] Int32 .int := fun σ τ T hR hM hW => by
  obtain ⟨σ1, a1, a2, a3⟩ := c_couples (d := 3) (τ := τ) (x := x) hR hW
  have hM1 : RM σ1 T := hM.keep2 a3
  obtain ⟨σ2, b1, b2⟩ := m_couples (d := 15) (τ := τ) (x := x) hM1 hW
  exact ⟨_, σ1, τ, σ2, τ, _, a1, b1, a2.keep (fun c hc => b2.1 c (by omega)), hM1.keep b2, hW⟩
theorem ag_lasts (x : Int32) : Agr 71 134 [.int x] Int32 .int := fun σ τ T hR hM hW => by
  have a1 := c_lasts (d := 18) (τ := τ) (x := x) hR hW
  have a2 := hR
  have hM1 := hM
  obtain ⟨σ2, b1, b2⟩ := m_lasts (d := 15) (τ := τ) (x := x) hM1 hW
  exact ⟨_, σ, τ, σ2, τ, _, a1, b1, a2.keep (fun c hc => b2.1 c (by omega)), hM1.keep b2, hW⟩
theorem ag_image : Agr 72 135 [] Int32 .int := fun σ τ T hR hM hW => by
  obtain ⟨σ1, a1, a2, a3⟩ := c_image (d := 19) (τ := τ) hR hW
  have hM1 : RM σ1 T := hM.keep2 a3
  obtain ⟨σ2, b1, b2, b3⟩ := m_image (d := 20) (τ := τ) hM1 hW
  exact ⟨_, σ1, τ, σ2, τ, _, a1, b1, a2.keep (fun c hc => b3 c (by omega)), b2, hW.image⟩
theorem ag_restore : Agr 73 136 [] Int32 .int := fun σ τ T hR hM hW => by
  obtain ⟨σ1, a1, a2, a3⟩ := c_restore (d := 15) (τ := τ) hR hW
  have hM1 : RM σ1 T := hM.keep2 a3
  obtain ⟨σ2, b1, b2, b3⟩ := m_restore (d := 20) (τ := τ) hM1 hW
  exact ⟨_, σ1, τ, σ2, τ, _, a1, b1, a2.keep (fun c hc => b3 c (by omega)), b2, hW.restore⟩
theorem ag_count (x : Int32) : Agr 74 139 [.int x] Int32 .int := fun σ τ T hR hM hW => by
  have a1 := c_count (d := 19) (τ := τ) (x := x) hR hW
  have a2 := hR
  have hM1 := hM
  have b1 := m_count (d := 18) (τ := τ) (x := x) hM1 hW
  exact ⟨_, σ, τ, σ, τ, _, a1, b1, a2, hM1, hW⟩
theorem ag_digest : Agr 75 141 [] Int64 .long := fun σ τ T hR hM hW => by
  obtain ⟨σ1, a1, a2, a3⟩ := c_digest (d := 3) (τ := τ) hR hW
  have hM1 : RM σ1 T := hM.keep2 a3
  obtain ⟨σ2, τ2, b1, b2⟩ := m_digest (d := 15) (τ := τ) hM1 hW
  exact ⟨_, σ1, τ, σ2, τ2, _, a1, b1, a2.keep (fun c hc => b2.1 c (by omega)), hM1.keep b2, hW⟩
