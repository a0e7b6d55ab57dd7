/-! whole runs of the abstract machine are sound: returns, calls, contracts -/
theorem am_op_call {ins : Instr} {len m pc : Nat} {ls st : List Value} {σ : am_St} {τ : Int64} {x : Nat × List Value × List Value} (h : am_op ins len m pc ls st σ τ = some (.inr (.inr x))) : (∃ i, ins = .invokevirtual i ∧ len = 3 ∧ am_invv (am_cl m) i st = some (.inr (.inr x))) ∨ (∃ i, ins = .invokestatic i ∧ len = 3 ∧ am_invs (am_cl m) i st = some (.inr (.inr x))) := by
  unfold am_op at h
  split at h
  case h_49 => exact Or.inl ⟨_, rfl, rfl, h⟩
  case h_50 =>
    split at h
    · exfalso
      unfold am_mth am_nx at h
      repeat' split at h
      all_goals cases h
    · exact Or.inr ⟨_, rfl, rfl, h⟩
  all_goals
    exfalso
    (try simp only [am_nx, am_jmp, am_ldi, am_ldl, am_lda, am_sti, am_stl, am_iin, am_i2, am_d2, am_l2, am_getf, am_putf, am_ald, am_ast, am_iret, am_lret, am_vret] at h)
    repeat' split at h
    all_goals cases h
theorem am_op_ret {ins : Instr} {len m pc : Nat} {ls st : List Value} {σ : am_St} {τ : Int64} {v : Option Value} (h : am_op ins len m pc ls st σ τ = some (.inl v)) : (ins = .ireturn ∧ len = 1 ∧ am_iret m st = some (.inl v)) ∨ (ins = .lreturn ∧ len = 1 ∧ am_lret m st = some (.inl v)) ∨ (ins = .return_ ∧ len = 1 ∧ am_vret m st = some (.inl v)) := by
  unfold am_op at h
  split at h
  case h_51 => exact Or.inl ⟨rfl, rfl, h⟩
  case h_52 => exact Or.inr (Or.inl ⟨rfl, rfl, h⟩)
  case h_53 => exact Or.inr (Or.inr ⟨rfl, rfl, h⟩)
  all_goals
    exfalso
    (try simp only [am_nx, am_jmp, am_ldi, am_ldl, am_lda, am_sti, am_stl, am_iin, am_i2, am_d2, am_l2, am_getf, am_putf, am_ald, am_ast, am_mth, am_invv, am_invs] at h)
    repeat' split at h
    all_goals cases h
/-- what holds behind a method: its answer, the world, nothing else changed -/
def am_Qc (dC : Nat → ClassId) (dI : Nat → Nat → Nat) (adr : Nat → Nat) (cI cZ : ClassId) (A : Nat → Prop) (v : Option Value) (σ : am_St) (τ : Int64) : Array Value → State → Outcome → State → Prop := fun _ st o t => (o = .returned (v.map (am_cv adr)) ∧ va_P (dC, dI) vwCl (am_ws adr cI cZ σ τ) t.heap ∧ va_K (dC, dI) vwCl (am_ty cI cZ) t ∧ va_D A (am_ws adr cI cZ σ τ)) ∧ va_F A st t
section AMC
variable {p : Program} {l : Launch} {e : Env} {R : Room} {s : State} {mi : MethodId} {args : Array Value} {below : List Frame} {meth : Method} {c : Code} {H : Heap} {locs : List Loc} {cells slots : Nat} {Q : State → Prop}
variable {dC : Nat → ClassId} {dI : Nat → Nat → Nat} {adr : Nat → Nat} {cI cZ : ClassId} {A : Nat → Prop} {H0 : Heap}
variable {m pc : Nat} {ls st : List Value} {σ : am_St} {τ : Int64} {lsj : Array Slot}
theorem am_rets {ins : Instr} {len : Nat} {v : Option Value} (C : am_Cx p s mi args meth c dC dI cI cZ m) (hW : am_Wd dC dI adr cI cZ A σ τ H) (hS : va_S A s.heap H locs) (hd : decode (am_code m) pc = .ok (ins, len)) (h : am_op ins len m pc ls st σ τ = some (.inl v)) : W p l e R s mi args below meth c H locs cells slots (MQ below (am_Qc dC dI adr cI cZ A v σ τ) args s cells slots A) (F0 mi pc lsj (st.map (am_cv adr))) := by
  obtain ⟨hx, hb, hml, hown, hts, hr, hlocks, hK⟩ := C
  rcases am_op_ret h with ⟨rfl, rfl, g⟩ | ⟨rfl, rfl, g⟩ | ⟨rfl, rfl, g⟩
  · unfold am_iret at g
    split at g
    · rename_i x hrt
      cases g
      rw [hrt] at hr
      exact W.iret hx hb hr (fun t ht hw => ⟨⟨rfl, by rw [ht]; exact hW.1, va_K.moved hw.alike hK, hW.2⟩, hS.F ht⟩) hS.2.2 hd
    · rename_i x hrt
      split at g
      · rename_i hv
        cases g
        rw [hrt] at hr
        exact W.zret hx hb hr (am_nb hv).1 (fun t ht hw => ⟨⟨rfl, by rw [ht]; exact hW.1, va_K.moved hw.alike hK, hW.2⟩, hS.F ht⟩) hS.2.2 hd
      · cases g
    · cases g
  · unfold am_lret at g
    split at g
    · rename_i x hrt
      cases g
      rw [hrt] at hr
      exact W.lret hx hb hr (fun t ht hw => ⟨⟨rfl, by rw [ht]; exact hW.1, va_K.moved hw.alike hK, hW.2⟩, hS.F ht⟩) hS.2.2 hd
    · cases g
  · unfold am_vret at g
    split at g
    · rename_i hrt
      cases g
      rw [hrt] at hr
      exact W.vret hx hb hr (fun t ht hw => ⟨⟨rfl, by rw [ht]; exact hW.1, va_K.moved hw.alike hK, hW.2⟩, hS.F ht⟩) hS.2.2 hd
    · cases g
/-- behind a call -/
theorem am_goes {mc ms : Nat} {A1 : Nat → Prop} {a : Array Value} {rest st0 : List Value} {v : Option Value} {free : Addr → Prop} (hr : va_Run p l e R s mi args below meth c H locs cells slots mc ms (F0 mi pc lsj st0) rest (am_Qc dC dI adr cI cZ A1 v σ τ a) free) (hS : va_S A H0 H locs) (hA : ∀ q, A1 q → A q) (hf : ∀ q, free q → A q)
    (kk : ∀ (H1 : Heap) (locs1 : List Loc), am_Wd dC dI adr cI cZ A σ τ H1 → va_S A H0 H1 locs1 → W p l e R s mi args below meth c H1 locs1 (cells + mc) (slots + ms) Q (F0 mi (pc + 3) lsj ((v.map (am_cv adr)).toList ++ rest))) : W p l e R s mi args below meth c H locs cells slots Q (F0 mi pc lsj st0) := by
  intro T hT X
  obtain ⟨v', st₀, t, T', L, h0, X', hL, e1, e2, ⟨⟨hv, hP, hK, hD⟩, hz, hk⟩, st⟩ := hr T hT X
  cases hv
  rw [h0] at hz hk
  obtain ⟨t2, a1, b1⟩ := kk T'.heap (locs ++ L) ⟨by rw [e1]; exact hP, hD.weaken (fun _ q _ h => hA q.1 h)⟩
    ⟨Nat.le_trans hS.1 (by rw [e1]; exact hz), fun q h1 h2 => by rw [e1, hk q (Nat.lt_of_lt_of_le h1 hS.1) (fun z => h2 (hA q z))]; exact hS.2.1 q h1 h2, fun q hq => by
      rcases List.mem_append.mp hq with h | h
      · exact hS.2.2 q h
      · exact hf _ (hL q h)⟩ T' rfl X'
  exact ⟨t2, st t2 a1, b1⟩
end AMC
theorem am_flat_args {adr : Nat → Nat} : ∀ (as : List Value) (j i : Nat) (v : Value), (am_flat as)[i]? = some v → v ≠ .null → (j + i, am_cv adr v) ∈ lv_args j (as.map (am_cv adr)) := by
  intro as
  induction as with
  | nil => intro j i v h; cases h
  | cons w as ih =>
    intro j i v h hv
    have e : am_flat (w :: as) = (if w.category = 2 then [w, .null] else [w]) ++ am_flat as := rfl
    rw [e] at h
    show _ ∈ (j, am_cv adr w) :: lv_args (if (am_cv adr w).category = 2 then j + 2 else j + 1) (as.map (am_cv adr))
    rw [am_cv_cat]
    by_cases hc : w.category = 2
    · rw [if_pos hc] at h ⊢
      match i, h with
      | 0, h => cases h; exact List.mem_cons_self
      | 1, h => cases h; exact absurd rfl hv
      | i + 2, h =>
        have := ih (j + 2) i v h hv
        rw [show j + (i + 2) = j + 2 + i by omega]
        exact List.mem_cons_of_mem _ this
    · rw [if_neg hc] at h ⊢
      match i, h with
      | 0, h => cases h; exact List.mem_cons_self
      | i + 1, h =>
        have := ih (j + 1) i v h hv
        rw [show j + (i + 1) = j + 1 + i by omega]
        exact List.mem_cons_of_mem _ this
theorem am_flat_len {adr : Nat → Nat} (as : List Value) : (lg_sl (as.map (am_cv adr))).length = (am_flat as).length := by
  induction as with
  | nil => rfl
  | cons w as ih =>
    have e : am_flat (w :: as) = (if w.category = 2 then [w, .null] else [w]) ++ am_flat as := rfl
    have e2 : lg_sl ((w :: as).map (am_cv adr)) = (if (am_cv adr w).category = 2 then [Slot.val (am_cv adr w), Slot.second] else [Slot.val (am_cv adr w)]) ++ lg_sl (as.map (am_cv adr)) := rfl
    rw [e, e2, List.length_append, List.length_append, ih, am_cv_cat]
    split <;> rfl
theorem am_entry {adr : Nat → Nat} {as : List Value} {n : Nat} {lsj : Array Slot} (h : lv_has lsj n (lv_args 0 (as.map (am_cv adr)))) : lv_has lsj n (am_la adr (am_en n as)) := by
  refine ⟨h.1, h.2.1, fun q hq => h.2.2 q ?_⟩
  obtain ⟨v, h1, h2, h3⟩ := am_la_mem.mp hq
  obtain ⟨i, x⟩ := q
  dsimp only at h1 h3
  subst h3
  unfold am_en at h1
  by_cases hi : i < (am_flat as).length
  · rw [List.getElem?_append_left hi] at h1
    have := am_flat_args (adr := adr) as 0 i v h1 h2
    rwa [Nat.zero_add] at this
  · rw [List.getElem?_append_right (by omega), List.getElem?_replicate] at h1
    split at h1
    · exact absurd (Option.some.inj h1).symm h2
    · cases h1
def am_rm (d : Nat) : Room := { frames := d + 1, cells := 0, slots := 0, locals := 64 * (d + 1) }
abbrev am_wds (q : Nat) : List Cond := Cond.code (am_y q) (am_code q) (am_mxl q) (am_rt q) :: am_tb
def am_Snd (l : Launch) (n : Nat) : Prop := ∀ (d m pc : Nat) (ls st : List Value) (σ : am_St) (τ : Int64) (v : Option Value) (σ' : am_St) (τ' : Int64), am_ev n d m pc ls st σ τ = some (v, σ', τ') → ∀ (p : Program) (e : Env) (R : Room) (s : State) (mi : MethodId) (args : Array Value) (below : List Frame) (meth : Method) (c : Code) (H : Heap) (locs : List Loc) (lsj : Array Slot) (dC : Nat → ClassId) (dI : Nat → Nat → Nat) (adr : Nat → Nat) (cI cZ : ClassId) (A : Nat → Prop), am_Cx p s mi args meth c dC dI cI cZ m → (∀ q, s.heap.size ≤ q → A q) → d + 1 ≤ R.frames ∧ 64 * (d + 1) ≤ R.locals → am_Wd dC dI adr cI cZ A σ τ H → va_S A s.heap H locs → lv_has lsj (am_mxl m) (am_la adr ls) → W p l e R s mi args below meth c H locs 0 0 (MQ below (am_Qc dC dI adr cI cZ A v σ' τ') args s 0 0 A) (F0 mi pc lsj (st.map (am_cv adr)))
/-- a method's start -/
abbrev am_Pc (dC : Nat → ClassId) (dI : Nat → Nat → Nat) (adr : Nat → Nat) (cI cZ : ClassId) (sz : Nat) (as : List Value) (σ : am_St) (τ : Int64) : Array Value → State → Prop := va_Pc (as.map (am_cv adr)) (fun U => U.heap.size = sz ∧ va_P (dC, dI) vwCl (am_ws adr cI cZ σ τ) U.heap ∧ va_K (dC, dI) vwCl (am_ty cI cZ) U ∧ va_D (fun _ => True) (am_ws adr cI cZ σ τ))
theorem am_met {l : Launch} {n d q : Nat} {as : List Value} {σ σ' : am_St} {τ τ' : Int64} {v : Option Value} {dC : Nat → ClassId} {dI : Nat → Nat → Nat} {adr : Nat → Nat} {cI cZ : ClassId} {sz : Nat} (IH : am_Snd l n) (hq : q < am_NM) (hlen : (am_flat as).length ≤ am_mxl q) (hev : am_ev n d q 0 (am_en (am_mxl q) as) [] σ τ = some (v, σ', τ')) : Met l (am_y q) (am_wds q) (am_rm d) (am_Pc dC dI adr cI cZ sz as σ τ) (am_Qc dC dI adr cI cZ (va_A (am_ws adr cI cZ σ τ) sz) v σ' τ') 0 0 (va_A (am_ws adr cI cZ σ τ) sz) := by
  refine Met.ofW (cc := am_code q) (maxL := am_mxl q) (ret := am_rt q) (am_mok hq).2.1 rfl ?_
  intro p e s m args below meth c s₁ B hml hv
  obtain ⟨rfl, hsz, hP, hK, hD0⟩ := hv
  have hts := atoms_spec (ws := am_wds q) B.pre
  have hown : s.vm.findClass (am_y q).cls = some m.cls := findClass_of_methodNamed B.named
  subst hsz
  have hD := hD0.self (sz := s.heap.size)
  have hl := lv_entry (as.map (am_cv adr)) (n := am_mxl q) (by rw [am_flat_len]; exact hlen)
  rw [lg_entry_eq]
  generalize (lg_sl (as.map (am_cv adr)) ++ List.replicate (am_mxl q - (lg_sl (as.map (am_cv adr))).length) Slot.unset).toArray = lsj at hl ⊢
  exact IH d q 0 (am_en (am_mxl q) as) [] σ τ v σ' τ' hev p e _ s m _ below meth c s.heap [] lsj dC dI adr cI cZ (va_A (am_ws adr cI cZ σ τ) s.heap.size) ⟨B.exec, B.bytes, hml, by rw [← (am_mok hq).2.2.1]; exact hown, fun w hw => hts w (List.mem_cons_of_mem _ hw), B.returns, B.notSynchronized, hK⟩ (fun q h => Or.inr h) ⟨Nat.le_refl _, Nat.le_refl _⟩ ⟨hP, hD⟩ va_S.rf (am_entry hl)
theorem am_blind {dC : Nat → ClassId} {dI : Nat → Nat → Nat} {adr : Nat → Nat} {cI cZ : ClassId} {sz : Nat} {as : List Value} {σ : am_St} {τ : Int64} : FrameBlind (am_Pc dC dI adr cI cZ sz as σ τ) := by
  intro a U g mk q
  obtain ⟨q0, q1, qP, qK, qD⟩ := q
  exact ⟨q0, q1, qP, va_K.moved (u := U) (U := U.calling g mk a) (Vm.Alike.refl U.vm) qK, qD⟩
theorem am_freeA {adr : Nat → Nat} {cI cZ : ClassId} {A : Nat → Prop} {H0 H : Heap} {locs : List Loc} {σ : am_St} {τ : Int64} (hD : va_D A (am_ws adr cI cZ σ τ)) (hS : va_S A H0 H locs) (hA : ∀ q, H0.size ≤ q → A q) : ∀ q, va_A (am_ws adr cI cZ σ τ) H.size q → A q := by
  intro q h
  rcases h with ⟨k, ee, h⟩ | h
  · exact hD.2 k (q, ee) h
  · exact hA q (Nat.le_trans hS.1 h)
section AMV
variable {p : Program} {l : Launch} {e : Env} {R : Room} {s : State} {mi : MethodId} {args : Array Value} {below : List Frame} {meth : Method} {c : Code} {H : Heap} {locs : List Loc} {cells slots : Nat} {Q : State → Prop}
variable {dC : Nat → ClassId} {dI : Nat → Nat → Nat} {adr : Nat → Nat} {cI cZ : ClassId} {A : Nat → Prop} {H0 : Heap}
variable {m pc : Nat} {ls st : List Value} {σ : am_St} {τ : Int64} {lsj : Array Slot}
theorem am_pre {sz : Nat} {as : List Value} (hK : va_K (dC, dI) vwCl (am_ty cI cZ) s) (hW : am_Wd dC dI adr cI cZ A σ τ H) : ∀ U : State, U.heap = H → s.WarmedH U.vm → am_Pc dC dI adr cI cZ H.size as σ τ (as.map (am_cv adr)).toArray U := fun U hU hw => ⟨rfl, by rw [hU], by rw [hU]; exact hW.1, va_K.moved hw.alike hK, hW.2.weaken (fun _ _ _ _ => trivial)⟩
/-- a call of a method of an object, from any method whose words hold -/
theorem am_callV {cc : ByteArray} {own : String} {i q k ci d nL : Nat} {fds : List Nat} {as rest : List Value} {v : Option Value} {σ' : am_St} {τ' : Int64} (hx : p.tables.exec = Jvm.exec) (hb : c.code = cc) (hml : c.maxLocals = nL) (hown : s.vm.findClass own = some mi.cls) (hts : ∀ w ∈ am_tb, w.before args s = true) (hlk : Cond.methodLink own i (am_y q) ∈ am_tb) (hq : q < am_NM) (hst : am_st q = false) (hsh : am_sh k = some (.inr (ci, fds))) (hci : ci = am_cl q) (hn : as.length = am_np q) (hc : am_cats rest ≤ 8) (hK : va_K (dC, dI) vwCl (am_ty cI cZ) s) (hW : am_Wd dC dI adr cI cZ A σ τ H) (hS : va_S A H0 H locs) (hA : ∀ q, H0.size ≤ q → A q) (hsz : lsj.size = nL) (hR : d + 2 ≤ R.frames ∧ 64 * (d + 2) ≤ R.locals ∧ cells ≤ R.cells ∧ slots ≤ R.slots) (hd : decode cc pc = .ok (.invokevirtual i, 3))
    (hM : Met l (am_y q) (am_wds q) (am_rm d) (am_Pc dC dI adr cI cZ H.size (.ref k :: as) σ τ) (am_Qc dC dI adr cI cZ (va_A (am_ws adr cI cZ σ τ) H.size) v σ' τ') 0 0 (va_A (am_ws adr cI cZ σ τ) H.size))
    (kk : ∀ (H1 : Heap) (locs1 : List Loc), am_Wd dC dI adr cI cZ A σ' τ' H1 → va_S A H0 H1 locs1 → W p l e R s mi args below meth c H1 locs1 cells slots Q (F0 mi (pc + 3) lsj ((v.toList ++ rest).map (am_cv adr)))) : W p l e R s mi args below meth c H locs cells slots Q (F0 mi pc lsj ((as.reverse ++ .ref k :: rest).map (am_cv adr))) := by
  obtain ⟨m1, m2, m3, m4, m5, m6, m7, m8, m9, m10⟩ := am_mok hq
  obtain ⟨m10, m11⟩ := m10 hst
  have hF := am_freeA hW.2 hS hA
  obtain ⟨C2, T2, N2, hcl2, hlen, hC, hall⟩ := am_sh_ok hsh
  have hG : GoodIn am_tb (wsV own i (am_y q).cls (am_y q) (am_wds q)) := am_goodIn (by
    intro w hw
    unfold wsV at hw
    simp only [List.mem_append, List.mem_cons, List.not_mem_nil, or_false] at hw
    rcases hw with (rfl | rfl | rfl | rfl) | rfl | hw
    · exact hlk
    · exact m10
    · exact m11
    · exact m8
    · exact m1
    · exact hw)
  have hrecv : ∃ cellB : Cell, H[adr k]? = some cellB ∧ cellB.vm.isStatics = false ∧ s.vm.findClass (am_y q).cls = some cellB.cls := by
    have := va_recv hK hW.1 hcl2 (am_obj hsh)
    dsimp only at this
    rw [hC, hci, ← m3] at this
    exact this
  refine am_goes (rest := rest.map (am_cv adr)) (va_runV (As := as.map (am_cv adr)) (b := adr k) (n := am_np q) ⟨hx, hb, hml, hown, hts⟩ hM (cwV (am_np q) hts hG rfl rfl rfl ⟨rfl, m4, m5, m6⟩ ⟨by show d + 1 + 1 ≤ _; omega, by show 8 + (am_mxl q + 11) + 64 * (d + 1) ≤ _; omega⟩) ⟨am_blind, hrecv, am_pre (sz := 0) hK hW⟩ rfl (by rw [List.length_map]; exact hn) hsz ?_ (lv_room (by rw [am_cats_cv]; exact hc)) hd ⟨by omega, by omega⟩) hS hF hF (fun H1 locs1 g1 g2 => ?_)
  · show (as.reverse ++ Value.ref k :: rest).map (am_cv adr) = _
    rw [List.map_append, List.map_reverse]
    rfl
  · have := kk H1 locs1 g1 g2
    rw [List.map_append] at this
    cases v <;> exact this
theorem am_callS {cc : ByteArray} {own : String} {i q d nL : Nat} {as rest : List Value} {v : Option Value} {σ' : am_St} {τ' : Int64} (hx : p.tables.exec = Jvm.exec) (hb : c.code = cc) (hml : c.maxLocals = nL) (hown : s.vm.findClass own = some mi.cls) (hts : ∀ w ∈ am_tb, w.before args s = true) (hlk : Cond.methodLink own i (am_y q) ∈ am_tb) (hq : q < am_NM) (hst : am_st q = true) (hn : as.length = am_np q) (hc : am_cats rest ≤ 8) (hK : va_K (dC, dI) vwCl (am_ty cI cZ) s) (hW : am_Wd dC dI adr cI cZ A σ τ H) (hS : va_S A H0 H locs) (hA : ∀ q, H0.size ≤ q → A q) (hsz : lsj.size = nL) (hR : d + 2 ≤ R.frames ∧ 64 * (d + 2) ≤ R.locals ∧ cells ≤ R.cells ∧ slots ≤ R.slots) (hd : decode cc pc = .ok (.invokestatic i, 3))
    (hM : Met l (am_y q) (am_wds q) (am_rm d) (am_Pc dC dI adr cI cZ H.size as σ τ) (am_Qc dC dI adr cI cZ (va_A (am_ws adr cI cZ σ τ) H.size) v σ' τ') 0 0 (va_A (am_ws adr cI cZ σ τ) H.size))
    (kk : ∀ (H1 : Heap) (locs1 : List Loc), am_Wd dC dI adr cI cZ A σ' τ' H1 → va_S A H0 H1 locs1 → W p l e R s mi args below meth c H1 locs1 cells slots Q (F0 mi (pc + 3) lsj ((v.toList ++ rest).map (am_cv adr)))) : W p l e R s mi args below meth c H locs cells slots Q (F0 mi pc lsj ((as.reverse ++ rest).map (am_cv adr))) := by
  obtain ⟨m1, m2, m3, m4, m5, m6, m7, m8, m9, m10⟩ := am_mok hq
  have m9 := m9 hst
  have hF := am_freeA hW.2 hS hA
  have hG : GoodIn am_tb (am_wds q) := am_goodIn (by
    intro w hw
    rcases List.mem_cons.mp hw with rfl | hw
    · exact m1
    · exact hw)
  refine am_goes (rest := rest.map (am_cv adr)) (va_runS (As := as.map (am_cv adr)) (n := am_np q) ⟨hx, hb, hml, hown, hts⟩ hM ⟨callB_of (am_np q) hts hG rfl rfl rfl (hts _ m8) (hts _ hlk) ⟨m4, m5, m6⟩ ⟨by show d + 1 + 1 ≤ _; omega, by show 8 + (am_mxl q + 11) + 64 * (d + 1) ≤ _; omega⟩, hts _ m9⟩ ⟨am_blind, am_pre (sz := 0) hK hW⟩ rfl (by rw [List.length_map]; exact hn) hsz ?_ (lv_room (by rw [am_cats_cv]; exact hc)) hd ⟨by omega, by omega⟩) hS hF hF (fun H1 locs1 g1 g2 => ?_)
  · show (as.reverse ++ rest).map (am_cv adr) = _
    rw [List.map_append, List.map_reverse]
  · have := kk H1 locs1 g1 g2
    rw [List.map_append] at this
    cases v <;> exact this
end AMV
theorem am_sound (l : Launch) : ∀ n, am_Snd l n := by
  intro n
  induction n with
  | zero => intro d m pc ls st σ τ v σ' τ' h; cases h
  | succ n ih =>
    intro d m pc ls st σ τ v σ' τ' h p e R s mi args below meth c H locs lsj dC dI adr cI cZ A C hA hR hW hS hl
    rw [am_ev] at h
    cases hs : am_step m pc ls st σ τ with
    | none => rw [hs] at h; cases h
    | some x =>
      rw [hs] at h
      have hst := hs
      unfold am_step at hst
      cases hdec : decode (am_code m) pc with
      | error er => rw [hdec] at hst; cases hst
      | ok y =>
        obtain ⟨ins, len⟩ := y
        rw [hdec] at hst
        dsimp only at hst
        match x, hst, h with
        | .inl w, hst, h =>
          cases h
          exact am_rets C hW hS hdec hst
        | .inr (.inl (pc', ls', st', σ1, τ1)), hst, h =>
          refine am_next C ⟨by omega, by omega, Nat.zero_le _, Nat.zero_le _⟩ hW hS hl hdec hst (fun H1 locs1 lsj1 g1 g2 g3 => ?_)
          exact ih d m pc' ls' st' σ1 τ1 v σ' τ' h p e R s mi args below meth c H1 locs1 lsj1 dC dI adr cI cZ A C hA hR g1 g2 g3
        | .inr (.inr (q, as, rest)), hst, h =>
          match d, h, hR with
          | 0, h, _ => cases h
          | d' + 1, h, hR =>
            dsimp only at h
            cases hc : am_ev n d' q 0 (am_en (am_mxl q) as) [] σ τ with
            | none => rw [hc] at h; cases h
            | some z =>
              obtain ⟨w, σ1, τ1⟩ := z
              rw [hc] at h
              dsimp only at h
              obtain ⟨hx, hb, hml, hown, hts, hr, hlocks, hK⟩ := id C
              have goon : ∀ (H1 : Heap) (locs1 : List Loc), am_Wd dC dI adr cI cZ A σ1 τ1 H1 → va_S A s.heap H1 locs1 → W p l e R s mi args below meth c H1 locs1 0 0 (MQ below (am_Qc dC dI adr cI cZ A v σ' τ') args s 0 0 A) (F0 mi (pc + 3) lsj ((w.toList ++ rest).map (am_cv adr))) := fun H1 locs1 g1 g2 => ih (d' + 1) m (pc + 3) ls (w.toList ++ rest) σ1 τ1 v σ' τ' h p e R s mi args below meth c H1 locs1 lsj dC dI adr cI cZ A C hA hR g1 g2 hl
              rcases am_op_call hst with ⟨i, rfl, rfl, hi⟩ | ⟨i, rfl, rfl, hi⟩
              · unfold am_invv at hi
                split at hi
                · rename_i q0 hmr
                  split at hi
                  · rename_i hq0
                    split at hi
                    · rename_i k rest0 hdrop
                      split at hi
                      · rename_i ci fds hsh
                        split at hi
                        · rename_i hcc
                          cases hi
                          obtain ⟨hc1, hc2, hc3, hc4⟩ := hcc
                          have e1 : st = (st.take (am_np q)).reverse.reverse ++ .ref k :: rest := by
                            rw [List.reverse_reverse, ← hdrop, List.take_append_drop]
                          rw [e1]
                          exact am_callV (cc := am_code m) (nL := am_mxl m) (d := d') hx hb hml hown hts (am_mr_ok hmr) hq0.2 hq0.1 hsh hc1 (by rw [List.length_reverse, List.length_take]; omega) hc3 hK hW hS hA hl.1 ⟨by omega, by omega, Nat.zero_le _, Nat.zero_le _⟩ hdec (am_met ih hq0.2 hc4 hc) goon
                        · cases hi
                      · cases hi
                    · cases hi
                  · cases hi
                · cases hi
              · unfold am_invs at hi
                split at hi
                · rename_i q0 hmr
                  split at hi
                  · rename_i hcc
                    cases hi
                    obtain ⟨hc0, hc1, hc2, hc3, hc4⟩ := hcc
                    have e1 : st = (st.take (am_np q)).reverse.reverse ++ st.drop (am_np q) := by
                      rw [List.reverse_reverse, List.take_append_drop]
                    have goal := am_callS (cc := am_code m) (nL := am_mxl m) (d := d') hx hb hml hown hts (am_mr_ok hmr) hc1 hc0 (by rw [List.length_reverse, List.length_take]; omega) hc3 hK hW hS hA hl.1 ⟨by omega, by omega, Nat.zero_le _, Nat.zero_le _⟩ hdec (am_met ih hc1 hc4 hc) goon
                    rw [← e1] at goal
                    exact goal
                  · cases hi
                · cases hi
/-- a method's contract, out of a run of the abstract machine -/
theorem am_contract (l : Launch) {d q : Nat} {as : List Value} {σ σ' : am_St} {τ τ' : Int64} {v : Option Value} {dC : Nat → ClassId} {dI : Nat → Nat → Nat} {adr : Nat → Nat} {cI cZ : ClassId} {sz : Nat} (hq : q < am_NM) (hlen : (am_flat as).length ≤ am_mxl q) (h : am_call d q as σ τ = some (v, σ', τ')) : Met l (am_y q) (am_wds q) (am_rm d) (am_Pc dC dI adr cI cZ sz as σ τ) (am_Qc dC dI adr cI cZ (va_A (am_ws adr cI cZ σ τ) sz) v σ' τ') 0 0 (va_A (am_ws adr cI cZ σ τ) sz) := by
  obtain ⟨n, hn⟩ := am_run_iff.mp h
  exact am_met (am_sound l n) hq hlen hn
