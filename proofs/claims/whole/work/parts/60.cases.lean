/-! the law: what holds at its loop, an argument, a call, a case -/
def LC (p : Program) (s : State) (m : MethodId) (c : Code) (b L : Nat) (xs : Nat → Int32) (dC : Nat → ClassId) (dI : Nat → Nat → Nat) (cI cZ : ClassId) : Prop := p.tables.exec = Jvm.exec ∧ c.code = code ∧ c.maxLocals = 4 ∧ s.vm.findClass RL = some m.cls ∧ (∀ w ∈ am_tb, w.before #[Value.ref b] s = true) ∧ va_X b L xs s s.heap ∧ b < s.heap.size ∧ va_K (dC, dI) vwCl (am_ty cI cZ) s
abbrev lw_A (s : State) : Nat → Prop := fun q => s.heap.size ≤ q
def lw_d (pc : Nat) (ins : Instr) (len : Nat) : Bool := decide (decode code pc = .ok (ins, len))
theorem lw_d_ok {pc : Nat} {ins : Instr} {len : Nat} (h : lw_d pc ins len = true) : decode code pc = .ok (ins, len) := of_decide_eq_true h
def lw_darg (pc : Nat) (j : Int) : Bool := lw_d pc (.aload_n 0) 1 && (lw_d (pc + 1) (.iload_n 3) 1 && (lw_d (pc + 2) (.iconst j) 1 && (lw_d (pc + 3) .iadd 1 && lw_d (pc + 4) .iaload 1)))
theorem am_sh_9 : am_sh 0 = some (.inr (9, [4, 6, 7, 18, 24, 28, 34, 37, 41, 0, 0])) := rfl
theorem am_sh_10 : am_sh 42 = some (.inr (10, [46, 0, 47, 48, 0, 0, 0, 0, 49, 50, 51, 52, 53, 54, 55, 56, 57, 58, 59, 60, 61, 0, 62, 63, 64, 65, 66, 67, 68, 69, 70, 71, 0, 0, 72, 1])) := rfl
section LCS
variable {p : Program} {l : Launch} {e : Env} {s : State} {m : MethodId} {below : List Frame} {meth : Method} {c : Code} {H : Heap} {locs : List Loc} {Q : State → Prop}
variable {dC : Nat → ClassId} {dI : Nat → Nat → Nat} {adr : Nat → Nat} {cI cZ : ClassId} {b L i pc : Nat} {xs : Nat → Int32} {ls : Array Slot} {rest : List Value} {σ : am_St} {τ : Int64} {T : tS}
/-- an int of the script is pushed -/
theorem lw_arg {j : Nat} {jj : Int} (C : LC p s m c b L xs dC dI cI cZ) (hS : va_S (lw_A s) s.heap H locs) (hl : lv_has ls 4 [(0, .ref b), (1, .ref (adr 0)), (2, .ref (adr 42)), (3, .int (nI i))]) (hL : L ≤ 384) (hij : i + j < L) (hj : Int32.ofInt jj = nI j) (hd : lw_darg pc jj = true) (kk : W p l e room_1 s m #[Value.ref b] below meth c H locs 600000 7302250 Q (F0 m (pc + 5) ls (.int (xs (i + j)) :: rest))) : W p l e room_1 s m #[Value.ref b] below meth c H locs 600000 7302250 Q (F0 m pc ls rest) := by
  obtain ⟨hx, hb, hml, hown, hts, hX, hbl, hK⟩ := C
  unfold lw_darg at hd
  simp only [Bool.and_eq_true] at hd
  obtain ⟨d0, d1, d2, d3, d4⟩ := hd
  refine lv_aload_n hx hb (lw_d_ok d0) rfl (lv_at hl 0 rfl) ?_
  refine lv_iload_n hx hb (lw_d_ok d1) rfl (lv_at hl 3 rfl) ?_
  refine lv_iconst hx hb (lw_d_ok d2) hj ?_
  refine lv_iadd hx hb (lw_d_ok d3) ?_
  rw [nI_add]
  refine va_sld hx hb hX hbl (A := lw_A s) (Nat.not_le.mpr hbl) hS (vp_in_nI hij (by omega)) (lw_d_ok d4) ?_
  rw [nI_clamp (by omega)]
  exact kk
/-- a call -/
theorem lw_call {q k idx ci : Nat} {fds : List Nat} {as : List Value} {v : Option Value} {σ' : am_St} {τ' : Int64} (C : LC p s m c b L xs dC dI cI cZ) (hS : va_S (lw_A s) s.heap H locs) (hW : am_Wd dC dI adr cI cZ (lw_A s) σ τ H) (hl : ls.size = 4) (h : am_call 20 q (.ref k :: as) σ τ = some (v, σ', τ')) (hlk : Cond.methodLink RL idx (am_y q) ∈ am_tb) (hq : decide (q < am_NM) = true) (hst : am_st q = false) (hsh : am_sh k = some (.inr (ci, fds))) (hci : ci = am_cl q) (hn : as.length = am_np q) (hc : am_cats rest ≤ 8) (hlen : decide ((am_flat (.ref k :: as)).length ≤ am_mxl q) = true) (hd : decode code pc = .ok (.invokevirtual idx, 3))
    (kk : ∀ (H1 : Heap) (locs1 : List Loc), am_Wd dC dI adr cI cZ (lw_A s) σ' τ' H1 → va_S (lw_A s) s.heap H1 locs1 → W p l e room_1 s m #[Value.ref b] below meth c H1 locs1 600000 7302250 Q (F0 m (pc + 3) ls ((v.toList ++ rest).map (am_cv adr)))) : W p l e room_1 s m #[Value.ref b] below meth c H locs 600000 7302250 Q (F0 m pc ls ((as.reverse ++ .ref k :: rest).map (am_cv adr))) := by
  obtain ⟨hx, hb, hml, hown, hts, hX, hbl, hK⟩ := C
  exact am_callV (cc := code) (nL := 4) (d := 20) hx hb hml hown hts hlk (of_decide_eq_true hq) hst hsh hci hn hc hK hW hS (fun _ h => h) hl ⟨by decide, by decide, by decide, by decide⟩ hd (am_contract l (of_decide_eq_true hq) (of_decide_eq_true hlen) h) kk
/-- what stands behind a case: the loop's step, from any state that both hold -/
abbrev lw_K (p : Program) (l : Launch) (e : Env) (s : State) (m : MethodId) (b : Nat) (below : List Frame) (meth : Method) (c : Code) (Q : State → Prop) (dC : Nat → ClassId) (dI : Nat → Nat → Nat) (adr : Nat → Nat) (cI cZ : ClassId) (ls : Array Slot) : Prop := ∀ (σ : am_St) (τ : Int64) (T : tS) (H : Heap) (locs : List Loc), RC σ T → RM σ T → WF T → am_Wd dC dI adr cI cZ (lw_A s) σ τ H → va_S (lw_A s) s.heap H locs → W p l e room_1 s m #[Value.ref b] below meth c H locs 600000 7302250 Q (F0 m 784 ls [])
/-- a case without arguments -/
def lw_c0 (pc i1 i2 : Nat) (off : Int) : Bool := lw_d pc (.aload_n 1) 1 && (lw_d (pc + 1) (.invokevirtual i1) 3 && (lw_d (pc + 4) (.aload_n 2) 1 && (lw_d (pc + 5) (.invokevirtual i2) 3 && (lw_d (pc + 8) (.if_icmp .eq off) 3 && decide (((pc + 8 : Nat) : Int) + off = 784)))))
theorem lw_case0 {q1 q2 i1 i2 : Nat} {off : Int} (C : LC p s m c b L xs dC dI cI cZ) (hS : va_S (lw_A s) s.heap H locs) (hW : am_Wd dC dI adr cI cZ (lw_A s) σ τ H) (hl : lv_has ls 4 [(0, .ref b), (1, .ref (adr 0)), (2, .ref (adr 42)), (3, .int (nI i))]) (hR : RC σ T) (hM : RM σ T) (hF : WF T) (ag : Agr q1 q2 [] Int32 .int) (hk1 : Cond.methodLink RL i1 (am_y q1) ∈ am_tb) (hk2 : Cond.methodLink RL i2 (am_y q2) ∈ am_tb) (hq1 : decide (q1 < am_NM) = true) (hq2 : decide (q2 < am_NM) = true) (hst1 : am_st q1 = false) (hst2 : am_st q2 = false) (hc1 : am_cl q1 = 9) (hc2 : am_cl q2 = 10) (hn1 : am_np q1 = 0) (hn2 : am_np q2 = 0) (hx1 : decide (1 ≤ am_mxl q1) = true) (hx2 : decide (1 ≤ am_mxl q2) = true) (hd : lw_c0 pc i1 i2 off = true) (kk : lw_K p l e s m b below meth c Q dC dI adr cI cZ ls) : W p l e room_1 s m #[Value.ref b] below meth c H locs 600000 7302250 Q (F0 m pc ls []) := by
  obtain ⟨v, σ1, τ1, σ2, τ2, T', a1, a2, r1, r2, r3⟩ := ag σ τ T hR hM hF
  unfold lw_c0 at hd
  simp only [Bool.and_eq_true, decide_eq_true_eq] at hd
  obtain ⟨d0, d1, d2, d3, d4, d5⟩ := hd
  refine lv_aload_n C.1 C.2.1 (lw_d_ok d0) rfl (lv_at hl 1 rfl) ?_
  refine lw_call (as := []) (rest := []) (k := 0) C hS hW hl.1 a1 hk1 hq1 hst1 (am_sh_9) hc1.symm hn1.symm (Nat.le_of_ble_eq_true rfl) hx1 (lw_d_ok d1) (fun H locs hW hS => ?_)
  refine lv_aload_n C.1 C.2.1 (lw_d_ok d2) rfl (lv_at hl 2 rfl) ?_
  refine lw_call (as := []) (rest := [.int v]) (k := 42) C hS hW hl.1 a2 hk2 hq2 hst2 (am_sh_10) hc2.symm hn2.symm (Nat.le_of_ble_eq_true rfl) hx2 (lw_d_ok d3) (fun H locs hW hS => ?_)
  refine lv_icmp_eq (tgt := 784) C.1 C.2.1 (lw_d_ok d4) d5 (fun _ => ?_) (fun h => absurd rfl h)
  exact kk σ2 τ2 T' H locs r1 r2 r3 hW hS
def lw_c1 (pc i1 i2 : Nat) (off : Int) : Bool := lw_d pc (.aload_n 1) 1 && (lw_darg (pc + 1) 1 && (lw_d (pc + 6) (.invokevirtual i1) 3 && (lw_d (pc + 9) (.aload_n 2) 1 && (lw_darg (pc + 10) 1 && (lw_d (pc + 15) (.invokevirtual i2) 3 && (lw_d (pc + 18) (.if_icmp .eq off) 3 && (decide (((pc + 18 : Nat) : Int) + off = 784))))))))
theorem lw_case1 {q1 q2 i1 i2 : Nat} {off : Int} (C : LC p s m c b L xs dC dI cI cZ) (hS : va_S (lw_A s) s.heap H locs) (hW : am_Wd dC dI adr cI cZ (lw_A s) σ τ H) (hl : lv_has ls 4 [(0, .ref b), (1, .ref (adr 0)), (2, .ref (adr 42)), (3, .int (nI i))]) (hR : RC σ T) (hM : RM σ T) (hF : WF T) (hL : L ≤ 384) (hiL : i + 6 ≤ L) (ag : Agr q1 q2 [.int (xs (i + 1))] Int32 .int) (hk1 : Cond.methodLink RL i1 (am_y q1) ∈ am_tb) (hk2 : Cond.methodLink RL i2 (am_y q2) ∈ am_tb) (hq1 : decide (q1 < am_NM) = true) (hq2 : decide (q2 < am_NM) = true) (hst1 : am_st q1 = false) (hst2 : am_st q2 = false) (hc1 : am_cl q1 = 9) (hc2 : am_cl q2 = 10) (hn1 : am_np q1 = 1) (hn2 : am_np q2 = 1) (hx1 : decide (2 ≤ am_mxl q1) = true) (hx2 : decide (2 ≤ am_mxl q2) = true) (hd : lw_c1 pc i1 i2 off = true) (kk : lw_K p l e s m b below meth c Q dC dI adr cI cZ ls) : W p l e room_1 s m #[Value.ref b] below meth c H locs 600000 7302250 Q (F0 m pc ls []) := by
  obtain ⟨v, σ1, τ1, σ2, τ2, T', a1, a2, r1, r2, r3⟩ := ag σ τ T hR hM hF
  unfold lw_c1 at hd
  simp only [Bool.and_eq_true, decide_eq_true_eq] at hd
  obtain ⟨d0, d1, d2, d3, d4, d5, d6, d7⟩ := hd
  refine lv_aload_n C.1 C.2.1 (lw_d_ok d0) rfl (lv_at hl 1 rfl) ?_
  refine lw_arg (j := 1) C hS hl hL (by omega) (by decide) d1 ?_
  refine lw_call (as := [.int (xs (i + 1))]) (rest := []) (k := 0) C hS hW hl.1 a1 hk1 hq1 hst1 am_sh_9 hc1.symm hn1.symm (Nat.le_of_ble_eq_true rfl) hx1 (lw_d_ok d2) (fun H locs hW hS => ?_)
  refine lv_aload_n C.1 C.2.1 (lw_d_ok d3) rfl (lv_at hl 2 rfl) ?_
  refine lw_arg (j := 1) C hS hl hL (by omega) (by decide) d4 ?_
  refine lw_call (as := [.int (xs (i + 1))]) (rest := [.int v]) (k := 42) C hS hW hl.1 a2 hk2 hq2 hst2 am_sh_10 hc2.symm hn2.symm (Nat.le_of_ble_eq_true rfl) hx2 (lw_d_ok d5) (fun H locs hW hS => ?_)
  refine lv_icmp_eq (tgt := 784) C.1 C.2.1 (lw_d_ok d6) d7 (fun _ => ?_) (fun h => absurd rfl h)
  exact kk σ2 τ2 T' H locs r1 r2 r3 hW hS
def lw_c2 (pc i1 i2 : Nat) (off : Int) : Bool := lw_d pc (.aload_n 1) 1 && (lw_darg (pc + 1) 1 && (lw_darg (pc + 6) 2 && (lw_d (pc + 11) (.invokevirtual i1) 3 && (lw_d (pc + 14) (.aload_n 2) 1 && (lw_darg (pc + 15) 1 && (lw_darg (pc + 20) 2 && (lw_d (pc + 25) (.invokevirtual i2) 3 && (lw_d (pc + 28) (.if_icmp .eq off) 3 && (decide (((pc + 28 : Nat) : Int) + off = 784))))))))))
theorem lw_case2 {q1 q2 i1 i2 : Nat} {off : Int} (C : LC p s m c b L xs dC dI cI cZ) (hS : va_S (lw_A s) s.heap H locs) (hW : am_Wd dC dI adr cI cZ (lw_A s) σ τ H) (hl : lv_has ls 4 [(0, .ref b), (1, .ref (adr 0)), (2, .ref (adr 42)), (3, .int (nI i))]) (hR : RC σ T) (hM : RM σ T) (hF : WF T) (hL : L ≤ 384) (hiL : i + 6 ≤ L) (ag : Agr q1 q2 [.int (xs (i + 1)), .int (xs (i + 2))] Int32 .int) (hk1 : Cond.methodLink RL i1 (am_y q1) ∈ am_tb) (hk2 : Cond.methodLink RL i2 (am_y q2) ∈ am_tb) (hq1 : decide (q1 < am_NM) = true) (hq2 : decide (q2 < am_NM) = true) (hst1 : am_st q1 = false) (hst2 : am_st q2 = false) (hc1 : am_cl q1 = 9) (hc2 : am_cl q2 = 10) (hn1 : am_np q1 = 2) (hn2 : am_np q2 = 2) (hx1 : decide (3 ≤ am_mxl q1) = true) (hx2 : decide (3 ≤ am_mxl q2) = true) (hd : lw_c2 pc i1 i2 off = true) (kk : lw_K p l e s m b below meth c Q dC dI adr cI cZ ls) : W p l e room_1 s m #[Value.ref b] below meth c H locs 600000 7302250 Q (F0 m pc ls []) := by
  obtain ⟨v, σ1, τ1, σ2, τ2, T', a1, a2, r1, r2, r3⟩ := ag σ τ T hR hM hF
  unfold lw_c2 at hd
  simp only [Bool.and_eq_true, decide_eq_true_eq] at hd
  obtain ⟨d0, d1, d2, d3, d4, d5, d6, d7, d8, d9⟩ := hd
  refine lv_aload_n C.1 C.2.1 (lw_d_ok d0) rfl (lv_at hl 1 rfl) ?_
  refine lw_arg (j := 1) C hS hl hL (by omega) (by decide) d1 ?_
  refine lw_arg (j := 2) C hS hl hL (by omega) (by decide) d2 ?_
  refine lw_call (as := [.int (xs (i + 1)), .int (xs (i + 2))]) (rest := []) (k := 0) C hS hW hl.1 a1 hk1 hq1 hst1 am_sh_9 hc1.symm hn1.symm (Nat.le_of_ble_eq_true rfl) hx1 (lw_d_ok d3) (fun H locs hW hS => ?_)
  refine lv_aload_n C.1 C.2.1 (lw_d_ok d4) rfl (lv_at hl 2 rfl) ?_
  refine lw_arg (j := 1) C hS hl hL (by omega) (by decide) d5 ?_
  refine lw_arg (j := 2) C hS hl hL (by omega) (by decide) d6 ?_
  refine lw_call (as := [.int (xs (i + 1)), .int (xs (i + 2))]) (rest := [.int v]) (k := 42) C hS hW hl.1 a2 hk2 hq2 hst2 am_sh_10 hc2.symm hn2.symm (Nat.le_of_ble_eq_true rfl) hx2 (lw_d_ok d7) (fun H locs hW hS => ?_)
  refine lv_icmp_eq (tgt := 784) C.1 C.2.1 (lw_d_ok d8) d9 (fun _ => ?_) (fun h => absurd rfl h)
  exact kk σ2 τ2 T' H locs r1 r2 r3 hW hS
def lw_c5 (pc i1 i2 : Nat) (off : Int) : Bool := lw_d pc (.aload_n 1) 1 && (lw_darg (pc + 1) 1 && (lw_darg (pc + 6) 2 && (lw_darg (pc + 11) 3 && (lw_darg (pc + 16) 4 && (lw_darg (pc + 21) 5 && (lw_d (pc + 26) (.invokevirtual i1) 3 && (lw_d (pc + 29) (.aload_n 2) 1 && (lw_darg (pc + 30) 1 && (lw_darg (pc + 35) 2 && (lw_darg (pc + 40) 3 && (lw_darg (pc + 45) 4 && (lw_darg (pc + 50) 5 && (lw_d (pc + 55) (.invokevirtual i2) 3 && (lw_d (pc + 58) (.if_icmp .eq off) 3 && (decide (((pc + 58 : Nat) : Int) + off = 784))))))))))))))))
theorem lw_case5 {q1 q2 i1 i2 : Nat} {off : Int} (C : LC p s m c b L xs dC dI cI cZ) (hS : va_S (lw_A s) s.heap H locs) (hW : am_Wd dC dI adr cI cZ (lw_A s) σ τ H) (hl : lv_has ls 4 [(0, .ref b), (1, .ref (adr 0)), (2, .ref (adr 42)), (3, .int (nI i))]) (hR : RC σ T) (hM : RM σ T) (hF : WF T) (hL : L ≤ 384) (hiL : i + 6 ≤ L) (ag : Agr q1 q2 [.int (xs (i + 1)), .int (xs (i + 2)), .int (xs (i + 3)), .int (xs (i + 4)), .int (xs (i + 5))] Int32 .int) (hk1 : Cond.methodLink RL i1 (am_y q1) ∈ am_tb) (hk2 : Cond.methodLink RL i2 (am_y q2) ∈ am_tb) (hq1 : decide (q1 < am_NM) = true) (hq2 : decide (q2 < am_NM) = true) (hst1 : am_st q1 = false) (hst2 : am_st q2 = false) (hc1 : am_cl q1 = 9) (hc2 : am_cl q2 = 10) (hn1 : am_np q1 = 5) (hn2 : am_np q2 = 5) (hx1 : decide (6 ≤ am_mxl q1) = true) (hx2 : decide (6 ≤ am_mxl q2) = true) (hd : lw_c5 pc i1 i2 off = true) (kk : lw_K p l e s m b below meth c Q dC dI adr cI cZ ls) : W p l e room_1 s m #[Value.ref b] below meth c H locs 600000 7302250 Q (F0 m pc ls []) := by
  obtain ⟨v, σ1, τ1, σ2, τ2, T', a1, a2, r1, r2, r3⟩ := ag σ τ T hR hM hF
  unfold lw_c5 at hd
  simp only [Bool.and_eq_true, decide_eq_true_eq] at hd
  obtain ⟨d0, d1, d2, d3, d4, d5, d6, d7, d8, d9, d10, d11, d12, d13, d14, d15⟩ := hd
  refine lv_aload_n C.1 C.2.1 (lw_d_ok d0) rfl (lv_at hl 1 rfl) ?_
  refine lw_arg (j := 1) C hS hl hL (by omega) (by decide) d1 ?_
  refine lw_arg (j := 2) C hS hl hL (by omega) (by decide) d2 ?_
  refine lw_arg (j := 3) C hS hl hL (by omega) (by decide) d3 ?_
  refine lw_arg (j := 4) C hS hl hL (by omega) (by decide) d4 ?_
  refine lw_arg (j := 5) C hS hl hL (by omega) (by decide) d5 ?_
  refine lw_call (as := [.int (xs (i + 1)), .int (xs (i + 2)), .int (xs (i + 3)), .int (xs (i + 4)), .int (xs (i + 5))]) (rest := []) (k := 0) C hS hW hl.1 a1 hk1 hq1 hst1 am_sh_9 hc1.symm hn1.symm (Nat.le_of_ble_eq_true rfl) hx1 (lw_d_ok d6) (fun H locs hW hS => ?_)
  refine lv_aload_n C.1 C.2.1 (lw_d_ok d7) rfl (lv_at hl 2 rfl) ?_
  refine lw_arg (j := 1) C hS hl hL (by omega) (by decide) d8 ?_
  refine lw_arg (j := 2) C hS hl hL (by omega) (by decide) d9 ?_
  refine lw_arg (j := 3) C hS hl hL (by omega) (by decide) d10 ?_
  refine lw_arg (j := 4) C hS hl hL (by omega) (by decide) d11 ?_
  refine lw_arg (j := 5) C hS hl hL (by omega) (by decide) d12 ?_
  refine lw_call (as := [.int (xs (i + 1)), .int (xs (i + 2)), .int (xs (i + 3)), .int (xs (i + 4)), .int (xs (i + 5))]) (rest := [.int v]) (k := 42) C hS hW hl.1 a2 hk2 hq2 hst2 am_sh_10 hc2.symm hn2.symm (Nat.le_of_ble_eq_true rfl) hx2 (lw_d_ok d13) (fun H locs hW hS => ?_)
  refine lv_icmp_eq (tgt := 784) C.1 C.2.1 (lw_d_ok d14) d15 (fun _ => ?_) (fun h => absurd rfl h)
  exact kk σ2 τ2 T' H locs r1 r2 r3 hW hS
/-- the long of two ints -/
def lw_w (x y : Int32) : Int64 := (x.toInt64 <<< ((32 : Int32).toInt64 &&& 63)) ||| (y.toInt64 &&& 4294967295)
def lw_dw (pc : Nat) : Bool := lw_darg pc 1 && (lw_d (pc + 5) .i2l 1 && (lw_d (pc + 6) (.bipush 32) 2 && (lw_d (pc + 8) .lshl 1 && (lw_darg (pc + 9) 2 && (lw_d (pc + 14) .i2l 1 && (lw_d (pc + 15) (.ldc2_w 13) 3 && (lw_d (pc + 18) .land 1 && lw_d (pc + 19) .lor 1)))))))
theorem lw_long (C : LC p s m c b L xs dC dI cI cZ) (hS : va_S (lw_A s) s.heap H locs) (hl : lv_has ls 4 [(0, .ref b), (1, .ref (adr 0)), (2, .ref (adr 42)), (3, .int (nI i))]) (hL : L ≤ 384) (hiL : i + 6 ≤ L) (hd : lw_dw pc = true) (kk : W p l e room_1 s m #[Value.ref b] below meth c H locs 600000 7302250 Q (F0 m (pc + 20) ls (.long (lw_w (xs (i + 1)) (xs (i + 2))) :: rest))) : W p l e room_1 s m #[Value.ref b] below meth c H locs 600000 7302250 Q (F0 m pc ls rest) := by
  unfold lw_dw at hd
  simp only [Bool.and_eq_true] at hd
  obtain ⟨d0, d1, d2, d3, d4, d5, d6, d7, d8⟩ := hd
  refine lw_arg (j := 1) C hS hl hL (by omega) (by decide) d0 ?_
  refine lv_i2l C.1 C.2.1 (lw_d_ok d1) rfl ?_
  refine lv_bipush (v := 32) C.1 C.2.1 (lw_d_ok d2) (by decide) ?_
  refine lv_lshl C.1 C.2.1 (lw_d_ok d3) rfl ?_
  refine lw_arg (j := 2) C hS hl hL (by omega) (by decide) d4 ?_
  refine lv_i2l C.1 C.2.1 (lw_d_ok d5) rfl ?_
  refine lv_ldc2 (v := 4294967295) C.1 C.2.1 C.2.2.2.1 (C.2.2.2.2.1 _ lk_const) (lw_d_ok d6) ?_
  refine lv_land C.1 C.2.1 (lw_d_ok d7) ?_
  refine lv_lor C.1 C.2.1 (lw_d_ok d8) ?_
  exact kk
def lw_cL (pc i1 i2 : Nat) (off : Int) : Bool := lw_d pc (.aload_n 1) 1 && (lw_dw (pc + 1) && (lw_d (pc + 21) (.invokevirtual i1) 3 && (lw_d (pc + 24) (.aload_n 2) 1 && (lw_dw (pc + 25) && (lw_d (pc + 45) (.invokevirtual i2) 3 && (lw_d (pc + 48) (.if_icmp .eq off) 3 && decide (((pc + 48 : Nat) : Int) + off = 784)))))))
theorem lw_caseL {q1 q2 i1 i2 : Nat} {off : Int} (C : LC p s m c b L xs dC dI cI cZ) (hS : va_S (lw_A s) s.heap H locs) (hW : am_Wd dC dI adr cI cZ (lw_A s) σ τ H) (hl : lv_has ls 4 [(0, .ref b), (1, .ref (adr 0)), (2, .ref (adr 42)), (3, .int (nI i))]) (hR : RC σ T) (hM : RM σ T) (hF : WF T) (hL : L ≤ 384) (hiL : i + 6 ≤ L) (ag : Agr q1 q2 [.long (lw_w (xs (i + 1)) (xs (i + 2)))] Int32 .int) (hk1 : Cond.methodLink RL i1 (am_y q1) ∈ am_tb) (hk2 : Cond.methodLink RL i2 (am_y q2) ∈ am_tb) (hq1 : decide (q1 < am_NM) = true) (hq2 : decide (q2 < am_NM) = true) (hst1 : am_st q1 = false) (hst2 : am_st q2 = false) (hc1 : am_cl q1 = 9) (hc2 : am_cl q2 = 10) (hn1 : am_np q1 = 1) (hn2 : am_np q2 = 1) (hx1 : decide (3 ≤ am_mxl q1) = true) (hx2 : decide (3 ≤ am_mxl q2) = true) (hd : lw_cL pc i1 i2 off = true) (kk : lw_K p l e s m b below meth c Q dC dI adr cI cZ ls) : W p l e room_1 s m #[Value.ref b] below meth c H locs 600000 7302250 Q (F0 m pc ls []) := by
  obtain ⟨v, σ1, τ1, σ2, τ2, T', a1, a2, r1, r2, r3⟩ := ag σ τ T hR hM hF
  unfold lw_cL at hd
  simp only [Bool.and_eq_true, decide_eq_true_eq] at hd
  obtain ⟨d0, d1, d2, d3, d4, d5, d6, d7⟩ := hd
  refine lv_aload_n C.1 C.2.1 (lw_d_ok d0) rfl (lv_at hl 1 rfl) ?_
  refine lw_long C hS hl hL hiL d1 ?_
  refine lw_call (as := [.long (lw_w (xs (i + 1)) (xs (i + 2)))]) (rest := []) (k := 0) C hS hW hl.1 a1 hk1 hq1 hst1 am_sh_9 hc1.symm hn1.symm (Nat.le_of_ble_eq_true rfl) hx1 (lw_d_ok d2) (fun H locs hW hS => ?_)
  refine lv_aload_n C.1 C.2.1 (lw_d_ok d3) rfl (lv_at hl 2 rfl) ?_
  refine lw_long C hS hl hL hiL d4 ?_
  refine lw_call (as := [.long (lw_w (xs (i + 1)) (xs (i + 2)))]) (rest := [.int v]) (k := 42) C hS hW hl.1 a2 hk2 hq2 hst2 am_sh_10 hc2.symm hn2.symm (Nat.le_of_ble_eq_true rfl) hx2 (lw_d_ok d5) (fun H locs hW hS => ?_)
  refine lv_icmp_eq (tgt := 784) C.1 C.2.1 (lw_d_ok d6) d7 (fun _ => ?_) (fun h => absurd rfl h)
  exact kk σ2 τ2 T' H locs r1 r2 r3 hW hS
def lw_cD (pc i1 i2 : Nat) (off : Int) : Bool := lw_d pc (.aload_n 1) 1 && (lw_d (pc + 1) (.invokevirtual i1) 3 && (lw_d (pc + 4) (.aload_n 2) 1 && (lw_d (pc + 5) (.invokevirtual i2) 3 && (lw_d (pc + 8) .lcmp 1 && (lw_d (pc + 9) (.ifCond .eq off) 3 && decide (((pc + 9 : Nat) : Int) + off = 784))))))
theorem lw_caseD {q1 q2 i1 i2 : Nat} {off : Int} (C : LC p s m c b L xs dC dI cI cZ) (hS : va_S (lw_A s) s.heap H locs) (hW : am_Wd dC dI adr cI cZ (lw_A s) σ τ H) (hl : lv_has ls 4 [(0, .ref b), (1, .ref (adr 0)), (2, .ref (adr 42)), (3, .int (nI i))]) (hR : RC σ T) (hM : RM σ T) (hF : WF T) (ag : Agr q1 q2 [] Int64 .long) (hk1 : Cond.methodLink RL i1 (am_y q1) ∈ am_tb) (hk2 : Cond.methodLink RL i2 (am_y q2) ∈ am_tb) (hq1 : decide (q1 < am_NM) = true) (hq2 : decide (q2 < am_NM) = true) (hst1 : am_st q1 = false) (hst2 : am_st q2 = false) (hc1 : am_cl q1 = 9) (hc2 : am_cl q2 = 10) (hn1 : am_np q1 = 0) (hn2 : am_np q2 = 0) (hx1 : decide (1 ≤ am_mxl q1) = true) (hx2 : decide (1 ≤ am_mxl q2) = true) (hd : lw_cD pc i1 i2 off = true) (kk : lw_K p l e s m b below meth c Q dC dI adr cI cZ ls) : W p l e room_1 s m #[Value.ref b] below meth c H locs 600000 7302250 Q (F0 m pc ls []) := by
  obtain ⟨v, σ1, τ1, σ2, τ2, T', a1, a2, r1, r2, r3⟩ := ag σ τ T hR hM hF
  unfold lw_cD at hd
  simp only [Bool.and_eq_true, decide_eq_true_eq] at hd
  obtain ⟨d0, d1, d2, d3, d4, d5, d6⟩ := hd
  refine lv_aload_n C.1 C.2.1 (lw_d_ok d0) rfl (lv_at hl 1 rfl) ?_
  refine lw_call (as := []) (rest := []) (k := 0) C hS hW hl.1 a1 hk1 hq1 hst1 am_sh_9 hc1.symm hn1.symm (Nat.le_of_ble_eq_true rfl) hx1 (lw_d_ok d1) (fun H locs hW hS => ?_)
  refine lv_aload_n C.1 C.2.1 (lw_d_ok d2) rfl (lv_at hl 2 rfl) ?_
  refine lw_call (as := []) (rest := [.long v]) (k := 42) C hS hW hl.1 a2 hk2 hq2 hst2 am_sh_10 hc2.symm hn2.symm (Nat.le_of_ble_eq_true rfl) hx2 (lw_d_ok d3) (fun H locs hW hS => ?_)
  refine W.lcmp C.1 C.2.1 (x := v) (y := v) (lw_d_ok d4) ?_
  refine lv_if_eq (tgt := 784) C.1 C.2.1 (lw_d_ok d5) d6 (fun _ => ?_) (fun h => absurd ((lg_cmp_eq v v).mpr rfl) h)
  exact kk σ2 τ2 T' H locs r1 r2 r3 hW hS
end LCS
