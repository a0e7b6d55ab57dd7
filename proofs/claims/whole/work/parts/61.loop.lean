def R_law : String := "OtherNameLaw"
def lw_P (b : Addr) (xs : List Int32) (args : Array Value) (s : State) : Prop := args = #[.ref b] ∧ s.IntsAt b xs ∧ xs.length ≤ 384 ∧ (Jvm.Cond.and given_1 narrow_1).before args s = true
def lw_Q (_ : Array Value) (s : State) (o : Outcome) (t : State) : Prop := o = .returned (some (.int 1)) ∧ Framed s o t [] 600000 7302250
def lw_Z (below : List Frame) (a : Array Value) (s : State) : State → Prop := fun t => ∃ o, t.status = .running ∧ Ended t below o ∧ lw_Q a s o t
/-- the law's own end, with 1 on the stack, nothing written that was there before, its room as the claim has it -/
theorem lw_ret {p : Program} {l : Launch} {e : Env} {s : State} {m : MethodId} {below : List Frame} {meth : Method} {c : Code} {b : Nat} (hx : p.tables.exec = Jvm.exec) (hb : c.code = code) (hr : meth.sig.returnType = ret) (hlocks : meth.locks = false) {pc : Nat} {H : Heap} {ls : Array Slot} (hdg : decode code pc = .ok (.ireturn, 1)) : W p l e room_1 s m #[Value.ref b] below meth c H [] 600000 7302250 (lw_Z below #[Value.ref b] s) (F0 m pc ls [.int 1]) := by
  intro T hT X
  obtain ⟨fs, hret, hrun, hended, hW, hframe⟩ := X.leave (v := some (.int 1)) (hlocks := hlocks) (fun h => by rw [hr] at h; cases h)
  have hmeth' : T.vm.method? m = some meth := X.method'
  refine ⟨T.setFrames fs, ?_, .returned (some (.int 1)), hrun, hended, rfl, ⟨_, rfl⟩, hW, hframe⟩
  jvm_step X.here [X.here.top, hx, hb, hdg, hmeth', hr, ret, narrow_b1]
  (try refine ⟨rfl, ?_⟩); (try refine ⟨rfl, ?_⟩)
  first | (intro acts; rw [hret _ acts rfl rfl rfl]) | rw [hret _ _ rfl rfl rfl]
  exact Steps.refl _
/-- what holds at the law's entry: the machine, the code, the tables' words (any of lw_tbl by 'hts w (by decide +kernel)'), the script of L ints xs at the cell b, what the Statement gives of the start (any of its parts by flat_of_before) -/
def lw_At (p : Program) (s : State) (m : MethodId) (meth : Method) (c : Code) (b L : Nat) (xs : Nat → Int32) : Prop :=
  p.tables.exec = Jvm.exec ∧ c.code = code ∧ meth.sig.returnType = ret ∧ c.maxLocals = 4 ∧ s.vm.findClass R_law = some m.cls ∧ (∀ w ∈ lw_tbl, w.before #[Value.ref b] s = true) ∧ va_X b L xs s s.heap ∧ b < s.heap.size ∧ meth.locks = false ∧ (Jvm.Cond.and given_1 narrow_1).before #[Value.ref b] s = true
theorem dL_0 : decode code 0 = .ok (.new 7, 3) := by decide +kernel
theorem dL_3 : decode code 3 = .ok (.dup, 1) := by decide +kernel
theorem dL_4 : decode code 4 = .ok (.invokespecial 9, 3) := by decide +kernel
theorem dL_7 : decode code 7 = .ok (.astore_n 1, 1) := by decide +kernel
theorem dL_8 : decode code 8 = .ok (.new 10, 3) := by decide +kernel
theorem dL_11 : decode code 11 = .ok (.dup, 1) := by decide +kernel
theorem dL_12 : decode code 12 = .ok (.invokespecial 12, 3) := by decide +kernel
theorem dL_15 : decode code 15 = .ok (.astore_n 2, 1) := by decide +kernel
theorem dL_16 : decode code 16 = .ok (.iconst 0, 1) := by decide +kernel
theorem dL_17 : decode code 17 = .ok (.istore_n 3, 1) := by decide +kernel
theorem dL_18 : decode code 18 = .ok (.iload_n 3, 1) := by decide +kernel
theorem dL_19 : decode code 19 = .ok (.aload_n 0, 1) := by decide +kernel
theorem dL_20 : decode code 20 = .ok (.arraylength, 1) := by decide +kernel
theorem dL_21 : decode code 21 = .ok (.bipush 6, 2) := by decide +kernel
theorem dL_23 : decode code 23 = .ok (.isub, 1) := by decide +kernel
theorem dL_24 : decode code 24 = .ok (.if_icmp .gt 766, 3) := by decide +kernel
theorem dL_27 : decode code 27 = .ok (.aload_n 0, 1) := by decide +kernel
theorem dL_28 : decode code 28 = .ok (.iload_n 3, 1) := by decide +kernel
theorem dL_29 : decode code 29 = .ok (.iaload, 1) := by decide +kernel
theorem dL_30 : decode code 30 = .ok (.bipush 31, 2) := by decide +kernel
theorem dL_32 : decode code 32 = .ok (.iand, 1) := by decide +kernel
theorem dL_33 : decode code 33 = .ok (.tableswitch 751 0 24 #[115, 168, 181, 194, 207, 230, 293, 326, 359, 392, 425, 448, 471, 494, 507, 530, 553, 586, 609, 642, 665, 688, 701, 714, 737], 115) := by decide +kernel
theorem dL_784 : decode code 784 = .ok (.iinc 3 6, 3) := by decide +kernel
theorem dL_787 : decode code 787 = .ok (.goto (-769), 3) := by decide +kernel
theorem dL_790 : decode code 790 = .ok (.iconst 1, 1) := by decide +kernel
theorem dL_791 : decode code 791 = .ok (.ireturn, 1) := by decide +kernel
theorem lw_cmp {L i : Nat} (hL : L ≤ 384) (hi : i ≤ 400) (h : ¬ nI L - 6 < nI i) : i + 6 ≤ L := by
  by_cases h6 : 6 ≤ L
  · have e : nI L - 6 = nI (L - 6) := pk_sub (b := 6) h6
    rw [e, ni_lt (by omega) (by omega)] at h
    omega
  · exfalso
    apply h
    have h1 : nI L - nI 6 < 0 := pk_sneg (by decide) (by omega)
    exact Int32.lt_of_lt_of_le h1 (nI_pos' (by omega))
section LIT
variable {p : Program} {l : Launch} {e : Env} {s : State} {m : MethodId} {below : List Frame} {meth : Method} {c : Code} {H : Heap} {locs : List Loc} {Q : State → Prop}
variable {dC : Nat → ClassId} {dI : Nat → Nat → Nat} {adr : Nat → Nat} {cI cZ : ClassId} {b L i : Nat} {xs : Nat → Int32} {ls : Array Slot} {σ : am_St} {τ : Int64} {T : tS}
set_option maxHeartbeats 4000000 in
set_option maxRecDepth 20000 in
/-- the switch and its cases -/
theorem lw_body {w : Nat} (C : LC p s m c b L xs dC dI cI cZ) (hS : va_S (lw_A s) s.heap H locs) (hW : am_Wd dC dI adr cI cZ (lw_A s) σ τ H) (hl : lv_has ls 4 [(0, .ref b), (1, .ref (adr 0)), (2, .ref (adr 42)), (3, .int (nI i))]) (hR : RC σ T) (hM : RM σ T) (hF : WF T) (hL : L ≤ 384) (hiL : i + 6 ≤ L) (hw : w < 32) (kk : lw_K p l e s m b below meth c Q dC dI adr cI cZ ls) : W p l e room_1 s m #[Value.ref b] below meth c H locs 600000 7302250 Q (F0 m 33 ls [.int (nI w)]) := by
  have hx := C.1
  have hb := C.2.1
  rcases (show w = 0 ∨ w = 1 ∨ w = 2 ∨ w = 3 ∨ w = 4 ∨ w = 5 ∨ w = 6 ∨ w = 7 ∨ w = 8 ∨ w = 9 ∨ w = 10 ∨ w = 11 ∨ w = 12 ∨ w = 13 ∨ w = 14 ∨ w = 15 ∨ w = 16 ∨ w = 17 ∨ w = 18 ∨ w = 19 ∨ w = 20 ∨ w = 21 ∨ w = 22 ∨ w = 23 ∨ w = 24 ∨ 25 ≤ w by omega) with rfl | rfl | rfl | rfl | rfl | rfl | rfl | rfl | rfl | rfl | rfl | rfl | rfl | rfl | rfl | rfl | rfl | rfl | rfl | rfl | rfl | rfl | rfl | rfl | rfl | h
  · refine lv_tableIn (off := 115) (tgt := 148) hx hb dL_33 (by decide) (by decide) (by decide) (by decide) ?_
    exact lw_caseL (i1 := 15) (i2 := 19) (off := 588) C hS hW hl hR hM hF hL hiL (ag_letters _) lk_X9_letters lk_X10_letters rfl rfl rfl rfl rfl rfl rfl rfl rfl rfl (by decide +kernel) kk
  · refine lv_tableIn (off := 168) (tgt := 201) hx hb dL_33 (by decide) (by decide) (by decide) (by decide) ?_
    exact lw_case0 (i1 := 20) (i2 := 24) (off := 575) C hS hW hl hR hM hF ag_blank lk_X9_blank lk_X10_blank rfl rfl rfl rfl rfl rfl rfl rfl rfl rfl (by decide +kernel) kk
  · refine lv_tableIn (off := 181) (tgt := 214) hx hb dL_33 (by decide) (by decide) (by decide) (by decide) ?_
    exact lw_case0 (i1 := 25) (i2 := 28) (off := 562) C hS hW hl hR hM hF ag_fault lk_X9_fault lk_X10_fault rfl rfl rfl rfl rfl rfl rfl rfl rfl rfl (by decide +kernel) kk
  · refine lv_tableIn (off := 194) (tgt := 227) hx hb dL_33 (by decide) (by decide) (by decide) (by decide) ?_
    exact lw_case0 (i1 := 29) (i2 := 32) (off := 549) C hS hW hl hR hM hF ag_law lk_X9_law lk_X10_law rfl rfl rfl rfl rfl rfl rfl rfl rfl rfl (by decide +kernel) kk
  · refine lv_tableIn (off := 207) (tgt := 240) hx hb dL_33 (by decide) (by decide) (by decide) (by decide) ?_
    exact lw_case1 (i1 := 33) (i2 := 37) (off := 526) C hS hW hl hR hM hF hL hiL (ag_lawTold _) lk_X9_lawTold lk_X10_lawTold rfl rfl rfl rfl rfl rfl rfl rfl rfl rfl (by decide +kernel) kk
  · refine lv_tableIn (off := 230) (tgt := 263) hx hb dL_33 (by decide) (by decide) (by decide) (by decide) ?_
    exact lw_case5 (i1 := 38) (i2 := 42) (off := 463) C hS hW hl hR hM hF hL hiL (ag_person _ _ _ _ _) lk_X9_person lk_X10_person rfl rfl rfl rfl rfl rfl rfl rfl rfl rfl (by decide +kernel) kk
  · refine lv_tableIn (off := 293) (tgt := 326) hx hb dL_33 (by decide) (by decide) (by decide) (by decide) ?_
    exact lw_case2 (i1 := 43) (i2 := 47) (off := 430) C hS hW hl hR hM hF hL hiL (ag_about _ _) lk_X9_about lk_X10_about rfl rfl rfl rfl rfl rfl rfl rfl rfl rfl (by decide +kernel) kk
  · refine lv_tableIn (off := 326) (tgt := 359) hx hb dL_33 (by decide) (by decide) (by decide) (by decide) ?_
    exact lw_case2 (i1 := 48) (i2 := 51) (off := 397) C hS hW hl hR hM hF hL hiL (ag_as _ _) lk_X9_as lk_X10_as rfl rfl rfl rfl rfl rfl rfl rfl rfl rfl (by decide +kernel) kk
  · refine lv_tableIn (off := 359) (tgt := 392) hx hb dL_33 (by decide) (by decide) (by decide) (by decide) ?_
    exact lw_case2 (i1 := 52) (i2 := 55) (off := 364) C hS hW hl hR hM hF hL hiL (ag_call _ _) lk_X9_call lk_X10_call rfl rfl rfl rfl rfl rfl rfl rfl rfl rfl (by decide +kernel) kk
  · refine lv_tableIn (off := 392) (tgt := 425) hx hb dL_33 (by decide) (by decide) (by decide) (by decide) ?_
    exact lw_case2 (i1 := 56) (i2 := 59) (off := 331) C hS hW hl hR hM hF hL hiL (ag_write _ _) lk_X9_write lk_X10_write rfl rfl rfl rfl rfl rfl rfl rfl rfl rfl (by decide +kernel) kk
  · refine lv_tableIn (off := 425) (tgt := 458) hx hb dL_33 (by decide) (by decide) (by decide) (by decide) ?_
    exact lw_case1 (i1 := 60) (i2 := 63) (off := 308) C hS hW hl hR hM hF hL hiL (ag_dies _) lk_X9_dies lk_X10_dies rfl rfl rfl rfl rfl rfl rfl rfl rfl rfl (by decide +kernel) kk
  · refine lv_tableIn (off := 448) (tgt := 481) hx hb dL_33 (by decide) (by decide) (by decide) (by decide) ?_
    exact lw_case1 (i1 := 64) (i2 := 67) (off := 285) C hS hW hl hR hM hF hL hiL (ag_wrong _) lk_X9_wrong lk_X10_wrong rfl rfl rfl rfl rfl rfl rfl rfl rfl rfl (by decide +kernel) kk
  · refine lv_tableIn (off := 471) (tgt := 504) hx hb dL_33 (by decide) (by decide) (by decide) (by decide) ?_
    exact lw_case1 (i1 := 68) (i2 := 71) (off := 262) C hS hW hl hR hM hF hL hiL (ag_mended _) lk_X9_mended lk_X10_mended rfl rfl rfl rfl rfl rfl rfl rfl rfl rfl (by decide +kernel) kk
  · refine lv_tableIn (off := 494) (tgt := 527) hx hb dL_33 (by decide) (by decide) (by decide) (by decide) ?_
    exact lw_case0 (i1 := 72) (i2 := 75) (off := 249) C hS hW hl hR hM hF ag_ways lk_X9_ways lk_X10_ways rfl rfl rfl rfl rfl rfl rfl rfl rfl rfl (by decide +kernel) kk
  · refine lv_tableIn (off := 507) (tgt := 540) hx hb dL_33 (by decide) (by decide) (by decide) (by decide) ?_
    exact lw_case1 (i1 := 76) (i2 := 79) (off := 226) C hS hW hl hR hM hF hL hiL (ag_sure _) lk_X9_sure lk_X10_sure rfl rfl rfl rfl rfl rfl rfl rfl rfl rfl (by decide +kernel) kk
  · refine lv_tableIn (off := 530) (tgt := 563) hx hb dL_33 (by decide) (by decide) (by decide) (by decide) ?_
    exact lw_case1 (i1 := 80) (i2 := 83) (off := 203) C hS hW hl hR hM hF hL hiL (ag_laws _) lk_X9_laws lk_X10_laws rfl rfl rfl rfl rfl rfl rfl rfl rfl rfl (by decide +kernel) kk
  · refine lv_tableIn (off := 553) (tgt := 586) hx hb dL_33 (by decide) (by decide) (by decide) (by decide) ?_
    exact lw_case2 (i1 := 84) (i2 := 87) (off := 170) C hS hW hl hR hM hF hL hiL (ag_near _ _) lk_X9_near lk_X10_near rfl rfl rfl rfl rfl rfl rfl rfl rfl rfl (by decide +kernel) kk
  · refine lv_tableIn (off := 586) (tgt := 619) hx hb dL_33 (by decide) (by decide) (by decide) (by decide) ?_
    exact lw_case1 (i1 := 88) (i2 := 91) (off := 147) C hS hW hl hR hM hF hL hiL (ag_kin _) lk_X9_kin lk_X10_kin rfl rfl rfl rfl rfl rfl rfl rfl rfl rfl (by decide +kernel) kk
  · refine lv_tableIn (off := 609) (tgt := 642) hx hb dL_33 (by decide) (by decide) (by decide) (by decide) ?_
    exact lw_case2 (i1 := 92) (i2 := 95) (off := 114) C hS hW hl hR hM hF hL hiL (ag_may _ _) lk_X9_may lk_X10_may rfl rfl rfl rfl rfl rfl rfl rfl rfl rfl (by decide +kernel) kk
  · refine lv_tableIn (off := 642) (tgt := 675) hx hb dL_33 (by decide) (by decide) (by decide) (by decide) ?_
    exact lw_case1 (i1 := 96) (i2 := 99) (off := 91) C hS hW hl hR hM hF hL hiL (ag_couples _) lk_X9_couples lk_X10_couples rfl rfl rfl rfl rfl rfl rfl rfl rfl rfl (by decide +kernel) kk
  · refine lv_tableIn (off := 665) (tgt := 698) hx hb dL_33 (by decide) (by decide) (by decide) (by decide) ?_
    exact lw_case1 (i1 := 100) (i2 := 103) (off := 68) C hS hW hl hR hM hF hL hiL (ag_lasts _) lk_X9_lasts lk_X10_lasts rfl rfl rfl rfl rfl rfl rfl rfl rfl rfl (by decide +kernel) kk
  · refine lv_tableIn (off := 688) (tgt := 721) hx hb dL_33 (by decide) (by decide) (by decide) (by decide) ?_
    exact lw_case0 (i1 := 104) (i2 := 107) (off := 55) C hS hW hl hR hM hF ag_image lk_X9_image lk_X10_image rfl rfl rfl rfl rfl rfl rfl rfl rfl rfl (by decide +kernel) kk
  · refine lv_tableIn (off := 701) (tgt := 734) hx hb dL_33 (by decide) (by decide) (by decide) (by decide) ?_
    exact lw_case0 (i1 := 108) (i2 := 111) (off := 42) C hS hW hl hR hM hF ag_restore lk_X9_restore lk_X10_restore rfl rfl rfl rfl rfl rfl rfl rfl rfl rfl (by decide +kernel) kk
  · refine lv_tableIn (off := 714) (tgt := 747) hx hb dL_33 (by decide) (by decide) (by decide) (by decide) ?_
    exact lw_case1 (i1 := 112) (i2 := 115) (off := 19) C hS hW hl hR hM hF hL hiL (ag_count _) lk_X9_count lk_X10_count rfl rfl rfl rfl rfl rfl rfl rfl rfl rfl (by decide +kernel) kk
  · refine lv_tableIn (off := 737) (tgt := 770) hx hb dL_33 (by decide) (by decide) (by decide) (by decide) ?_
    exact lw_caseD (i1 := 116) (i2 := 120) (off := 5) C hS hW hl hR hM hF ag_digest lk_X9_digest lk_X10_digest rfl rfl rfl rfl rfl rfl rfl rfl rfl rfl (by decide +kernel) kk
  · refine lv_tableOut (tgt := 784) hx hb dL_33 (Or.inr (by rw [nI_toInt (by omega)]; omega)) (by decide) ?_
    exact kk σ τ T H locs hR hM hF hW hS
set_option maxHeartbeats 4000000 in
/-- one turn of the loop -/
theorem lw_iter (C : LC p s m c b L xs dC dI cI cZ) (hr : meth.sig.returnType = ret) (hlocks : meth.locks = false) (hS : va_S (lw_A s) s.heap H locs) (hW : am_Wd dC dI adr cI cZ (lw_A s) σ τ H) (hl : lv_has ls 4 [(0, .ref b), (1, .ref (adr 0)), (2, .ref (adr 42)), (3, .int (nI i))]) (hR : RC σ T) (hM : RM σ T) (hF : WF T) (hL : L ≤ 384) (hi : i ≤ 400)
    (hn : i + 6 ≤ L → ∀ (σ : am_St) (τ : Int64) (T : tS) (H : Heap) (locs : List Loc) (ls : Array Slot), RC σ T → RM σ T → WF T → am_Wd dC dI adr cI cZ (lw_A s) σ τ H → va_S (lw_A s) s.heap H locs → lv_has ls 4 [(0, .ref b), (1, .ref (adr 0)), (2, .ref (adr 42)), (3, .int (nI (i + 6)))] → W p l e room_1 s m #[Value.ref b] below meth c H locs 600000 7302250 (lw_Z below #[Value.ref b] s) (F0 m 18 ls [])) : W p l e room_1 s m #[Value.ref b] below meth c H locs 600000 7302250 (lw_Z below #[Value.ref b] s) (F0 m 18 ls []) := by
  obtain ⟨hx, hb, hml, hown, hts, hX, hbl, hK⟩ := id C
  refine lv_iload_n hx hb dL_18 rfl (lv_at hl 3 rfl) ?_
  refine lv_aload_n hx hb dL_19 rfl (lv_at hl 0 rfl) ?_
  refine va_slen hx hb hX hbl (A := lw_A s) (Nat.not_le.mpr hbl) hS dL_20 ?_
  refine lv_bipush (v := 6) hx hb dL_21 (by decide) ?_
  refine lv_isub hx hb dL_23 ?_
  refine lv_icmp_gt (tgt := 790) hx hb dL_24 (by decide) (fun h => ?_) (fun h => ?_)
  · refine lv_iconst (v := 1) hx hb dL_790 (by decide) ?_
    refine va_forget hS.2.2 ?_
    exact lw_ret hx hb hr hlocks dL_791
  · have hiL : i + 6 ≤ L := lw_cmp hL hi h
    refine lv_aload_n hx hb dL_27 rfl (lv_at hl 0 rfl) ?_
    refine lv_iload_n hx hb dL_28 rfl (lv_at hl 3 rfl) ?_
    refine va_sld hx hb hX hbl (A := lw_A s) (Nat.not_le.mpr hbl) hS (vp_in_nI (by omega) (by omega)) dL_29 ?_
    refine lv_bipush (v := 31) hx hb dL_30 (by decide) ?_
    refine lv_iand hx hb dL_32 ?_
    rw [pk_and _ (m := 31) 5 (by decide)]
    refine lw_body C hS hW hl hR hM hF hL hiL (Nat.mod_lt _ (by decide)) (fun σ τ T H locs hR hM hF hW hS => ?_)
    refine lv_iinc (v := nI (i + 6)) (lv' := [(3, .int (nI (i + 6))), (0, .ref b), (1, .ref (adr 0)), (2, .ref (adr 42))]) hx hb dL_784 hl (k := 3) rfl (nI_add i 6) (by decide) rfl (fun ls hl => ?_)
    refine lv_goto (tgt := 18) hx hb dL_787 (by decide) ?_
    exact hn hiL σ τ T H locs ls hR hM hF hW hS (lv_sub hl [1, 2, 3, 0] rfl)
theorem lw_loop (C : LC p s m c b L xs dC dI cI cZ) (hr : meth.sig.returnType = ret) (hlocks : meth.locks = false) (hL : L ≤ 384) : ∀ (n i : Nat) (σ : am_St) (τ : Int64) (T : tS) (H : Heap) (locs : List Loc) (ls : Array Slot), L ≤ i + n → i ≤ 400 → RC σ T → RM σ T → WF T → am_Wd dC dI adr cI cZ (lw_A s) σ τ H → va_S (lw_A s) s.heap H locs → lv_has ls 4 [(0, .ref b), (1, .ref (adr 0)), (2, .ref (adr 42)), (3, .int (nI i))] → W p l e room_1 s m #[Value.ref b] below meth c H locs 600000 7302250 (lw_Z below #[Value.ref b] s) (F0 m 18 ls []) := by
  intro n
  induction n with
  | zero =>
    intro i σ τ T H locs ls hn hi hR hM hF hW hS hl
    exact lw_iter C hr hlocks hS hW hl hR hM hF hL hi (fun h => absurd h (by omega))
  | succ n ih =>
    intro i σ τ T H locs ls hn hi hR hM hF hW hS hl
    exact lw_iter C hr hlocks hS hW hl hR hM hF hL hi (fun h σ τ T H locs ls hR hM hF hW hS hl => ih (i + 6) σ τ T H locs ls (by omega) (by omega) hR hM hF hW hS hl)
end LIT
