/-! what the tables hold -/
def am_fchk (q : Nat × Nat × Nat × Nat × Nat) : Bool := match vwCl[q.2.2.1]? with
  | some (C, T, N) => decide (q.2.2.2.1 < N) && decide (lw_tbl[q.2.2.2.2]? = some (Cond.fieldLink (am_R q.1) q.2.1 C (T q.2.2.2.1).2.1 (T q.2.2.2.1).2.2.1)) && decide ((T q.2.2.2.1).1 = C)
  | none => false
def am_schj (T : u_T) (f : Option Nat) (j : Nat) : Bool := match f with
  | some 0 => decide (parseFieldDescriptor (T j).2.2.1 = some .int) && decide ((T j).2.2.2 = false)
  | some 1 => decide (parseFieldDescriptor (T j).2.2.1 = some .long) && decide ((T j).2.2.2 = false)
  | some 2 => decide (parseFieldDescriptor (T j).2.2.1 = some .boolean) && decide ((T j).2.2.2 = false)
  | some (t + 3) => decide (t < am_N)
  | none => false
def am_schk (x : (Bool × Nat) ⊕ (Nat × List Nat)) : Bool := match x with
  | .inl _ => true
  | .inr (ci, fds) => match vwCl[ci]? with
    | some (C, T, N) => decide (fds.length = N) && decide (C = am_R ci) && (List.range N).all (fun j => am_schj T fds[j]? j)
    | none => false
def am_mchk (q : Nat) : Bool := plainName (am_y q).cls && decide ((am_y q).cls = am_R (am_cl q)) && decide ((am_y q).cls ≠ "java/lang/invoke/MethodHandle") && decide ((am_y q).cls ≠ "java/lang/invoke/VarHandle") && decide ((parseMethodDescriptor (am_y q).desc).map (fun d => d.parameters.length) = some (am_np q)) && decide (am_mxl q ≤ 40) && decide (lw_tbl[am_pin q]? = some (Cond.initialized (am_y q).cls)) && (if am_st q = true then decide (lw_tbl[am_pa q]? = some (Cond.static (am_y q))) else decide (lw_tbl[am_pa q]? = some (Cond.instanceMethod (am_y q))) && decide (lw_tbl[am_pb q]? = some (Cond.selects (am_y q).cls (am_y q) (am_y q))))
def am_cchk (q : Nat × Nat × Nat × Nat) : Bool := decide (lw_tbl[q.2.2.2]? = some (Cond.methodLink (am_R q.1) q.2.1 (am_y q.2.2.1)))
set_option maxRecDepth 20000 in
theorem am_fok : am_flds.all am_fchk = true := by decide +kernel
set_option maxRecDepth 20000 in
theorem am_sok : am_shl.all am_schk = true := by decide +kernel
set_option maxRecDepth 20000 in
theorem am_mok0 : (List.range am_NM).all am_mchk = true := by decide +kernel
set_option maxRecDepth 20000 in
theorem am_cok : am_calls.all am_cchk = true := by decide +kernel
set_option maxRecDepth 20000 in
theorem am_kiok : am_kis.all (fun q => decide (lw_tbl[q.2.2.2]? = some (Cond.constant (am_R q.1) q.2.1 q.2.2.1))) = true := by decide +kernel
set_option maxRecDepth 20000 in
theorem am_klok : am_kls.all (fun q => decide (lw_tbl[q.2.2.2]? = some (Cond.constantLong (am_R q.1) q.2.1 q.2.2.1))) = true := by decide +kernel
/-- the words that calls may hand on -/
def am_tb : List Cond := lw_tbl.filter goodWord
theorem am_tb_of {w : Cond} (h : w ∈ lw_tbl) (hg : goodWord w = true) : w ∈ am_tb := List.mem_filter.mpr ⟨h, hg⟩
theorem am_fr_ok {own i ci j : Nat} (h : am_fr own i = some (ci, j)) : ∃ (C : String) (T : u_T) (N : Nat), vwCl[ci]? = some (C, T, N) ∧ j < N ∧ Cond.fieldLink (am_R own) i C (T j).2.1 (T j).2.2.1 ∈ am_tb ∧ (T j).1 = C := by
  unfold am_fr at h
  obtain ⟨q, h1, h2⟩ := Option.map_eq_some_iff.mp h
  have h3 := List.find?_some h1
  have h4 := List.all_eq_true.mp am_fok q (List.mem_of_find?_eq_some h1)
  simp only [Bool.and_eq_true, beq_iff_eq] at h3
  obtain ⟨a, b, x, y, z⟩ := q
  dsimp only at h2 h3
  obtain ⟨rfl, rfl⟩ := h3
  cases h2
  unfold am_fchk at h4
  dsimp only at h4
  split at h4
  · rename_i C T N hc
    simp only [Bool.and_eq_true, decide_eq_true_eq] at h4
    exact ⟨C, T, N, hc, h4.1.1, am_tb_of (List.mem_of_getElem? h4.1.2) rfl, h4.2⟩
  · cases h4
theorem am_sh_ok {k ci : Nat} {fds : List Nat} (h : am_sh k = some (.inr (ci, fds))) : ∃ (C : String) (T : u_T) (N : Nat), vwCl[ci]? = some (C, T, N) ∧ fds.length = N ∧ C = am_R ci ∧ ∀ j, j < N → am_schj T fds[j]? j = true := by
  have h4 := List.all_eq_true.mp am_sok _ (List.mem_of_getElem? h)
  unfold am_schk at h4
  dsimp only at h4
  split at h4
  · rename_i C T N hc
    simp only [Bool.and_eq_true, decide_eq_true_eq] at h4
    exact ⟨C, T, N, hc, h4.1.1, h4.1.2, fun j hj => List.all_eq_true.mp h4.2 j (List.mem_range.mpr hj)⟩
  · cases h4
theorem am_lay_in {C : String} {T : u_T} {N : Nat} (h : ∀ w ∈ u_ws C T N, w ∈ lw_tbl) : ∀ w ∈ u_ws C T N, w ∈ am_tb := by
  intro w hw
  refine am_tb_of (h w hw) ?_
  obtain ⟨k, -, rfl⟩ := List.mem_map.mp hw
  unfold u_lay
  split <;> rfl
theorem am_cls_ok {ci : Nat} {C : String} {T : u_T} {N : Nat} (h : vwCl[ci]? = some (C, T, N)) : (∀ w ∈ u_ws C T N, w ∈ am_tb) ∧ (∃ ty0 : Nat → FieldType, ∀ k, k < N → parseFieldDescriptor (T k).2.2.1 = some (ty0 k)) ∧ ∀ a, a < N → ∀ b, b < N → a ≠ b → (T a).2.1 ≠ (T b).2.1 := by
  match ci, h with
  | 0, h => cases h; exact ⟨am_lay_in inX0, ⟨tyX0, tyX0_ok⟩, nmX0⟩
  | 1, h => cases h; exact ⟨am_lay_in inX1, ⟨tyX1, tyX1_ok⟩, nmX1⟩
  | 2, h => cases h; exact ⟨am_lay_in inX2, ⟨tyX2, tyX2_ok⟩, nmX2⟩
  | 3, h => cases h; exact ⟨am_lay_in inX3, ⟨tyX3, tyX3_ok⟩, nmX3⟩
  | 4, h => cases h; exact ⟨am_lay_in inX4, ⟨tyX4, tyX4_ok⟩, nmX4⟩
  | 5, h => cases h; exact ⟨am_lay_in inX5, ⟨tyX5, tyX5_ok⟩, nmX5⟩
  | 6, h => cases h; exact ⟨am_lay_in inX6, ⟨tyX6, tyX6_ok⟩, nmX6⟩
  | 7, h => cases h; exact ⟨am_lay_in inX7, ⟨tyX7, tyX7_ok⟩, nmX7⟩
  | 8, h => cases h; exact ⟨am_lay_in inX8, ⟨tyX8, tyX8_ok⟩, nmX8⟩
  | 9, h => cases h; exact ⟨am_lay_in inX9, ⟨tyX9, tyX9_ok⟩, nmX9⟩
  | 10, h => cases h; exact ⟨am_lay_in inX10, ⟨tyX10, tyX10_ok⟩, nmX10⟩
  | ci + 11, h => cases h
set_option maxRecDepth 20000 in
theorem am_cd0 : lw_tbl[665]? = some (Cond.code (am_y 0) (am_code 0) (am_mxl 0) (am_rt 0)) := rfl
set_option maxRecDepth 20000 in
theorem am_cd1 : lw_tbl[674]? = some (Cond.code (am_y 1) (am_code 1) (am_mxl 1) (am_rt 1)) := rfl
set_option maxRecDepth 20000 in
theorem am_cd2 : lw_tbl[678]? = some (Cond.code (am_y 2) (am_code 2) (am_mxl 2) (am_rt 2)) := rfl
set_option maxRecDepth 20000 in
theorem am_cd3 : lw_tbl[690]? = some (Cond.code (am_y 3) (am_code 3) (am_mxl 3) (am_rt 3)) := rfl
set_option maxRecDepth 20000 in
theorem am_cd4 : lw_tbl[683]? = some (Cond.code (am_y 4) (am_code 4) (am_mxl 4) (am_rt 4)) := rfl
set_option maxRecDepth 20000 in
theorem am_cd5 : lw_tbl[686]? = some (Cond.code (am_y 5) (am_code 5) (am_mxl 5) (am_rt 5)) := rfl
set_option maxRecDepth 20000 in
theorem am_cd6 : lw_tbl[489]? = some (Cond.code (am_y 6) (am_code 6) (am_mxl 6) (am_rt 6)) := rfl
set_option maxRecDepth 20000 in
theorem am_cd7 : lw_tbl[485]? = some (Cond.code (am_y 7) (am_code 7) (am_mxl 7) (am_rt 7)) := rfl
set_option maxRecDepth 20000 in
theorem am_cd8 : lw_tbl[505]? = some (Cond.code (am_y 8) (am_code 8) (am_mxl 8) (am_rt 8)) := rfl
set_option maxRecDepth 20000 in
theorem am_cd9 : lw_tbl[477]? = some (Cond.code (am_y 9) (am_code 9) (am_mxl 9) (am_rt 9)) := rfl
set_option maxRecDepth 20000 in
theorem am_cd10 : lw_tbl[481]? = some (Cond.code (am_y 10) (am_code 10) (am_mxl 10) (am_rt 10)) := rfl
set_option maxRecDepth 20000 in
theorem am_cd11 : lw_tbl[497]? = some (Cond.code (am_y 11) (am_code 11) (am_mxl 11) (am_rt 11)) := rfl
set_option maxRecDepth 20000 in
theorem am_cd12 : lw_tbl[544]? = some (Cond.code (am_y 12) (am_code 12) (am_mxl 12) (am_rt 12)) := rfl
set_option maxRecDepth 20000 in
theorem am_cd13 : lw_tbl[728]? = some (Cond.code (am_y 13) (am_code 13) (am_mxl 13) (am_rt 13)) := rfl
set_option maxRecDepth 20000 in
theorem am_cd14 : lw_tbl[568]? = some (Cond.code (am_y 14) (am_code 14) (am_mxl 14) (am_rt 14)) := rfl
set_option maxRecDepth 20000 in
theorem am_cd15 : lw_tbl[501]? = some (Cond.code (am_y 15) (am_code 15) (am_mxl 15) (am_rt 15)) := rfl
set_option maxRecDepth 20000 in
theorem am_cd16 : lw_tbl[512]? = some (Cond.code (am_y 16) (am_code 16) (am_mxl 16) (am_rt 16)) := rfl
set_option maxRecDepth 20000 in
theorem am_cd17 : lw_tbl[515]? = some (Cond.code (am_y 17) (am_code 17) (am_mxl 17) (am_rt 17)) := rfl
set_option maxRecDepth 20000 in
theorem am_cd18 : lw_tbl[648]? = some (Cond.code (am_y 18) (am_code 18) (am_mxl 18) (am_rt 18)) := rfl
set_option maxRecDepth 20000 in
theorem am_cd19 : lw_tbl[656]? = some (Cond.code (am_y 19) (am_code 19) (am_mxl 19) (am_rt 19)) := rfl
set_option maxRecDepth 20000 in
theorem am_cd20 : lw_tbl[599]? = some (Cond.code (am_y 20) (am_code 20) (am_mxl 20) (am_rt 20)) := rfl
set_option maxRecDepth 20000 in
theorem am_cd21 : lw_tbl[603]? = some (Cond.code (am_y 21) (am_code 21) (am_mxl 21) (am_rt 21)) := rfl
set_option maxRecDepth 20000 in
theorem am_cd22 : lw_tbl[607]? = some (Cond.code (am_y 22) (am_code 22) (am_mxl 22) (am_rt 22)) := rfl
set_option maxRecDepth 20000 in
theorem am_cd23 : lw_tbl[614]? = some (Cond.code (am_y 23) (am_code 23) (am_mxl 23) (am_rt 23)) := rfl
set_option maxRecDepth 20000 in
theorem am_cd24 : lw_tbl[712]? = some (Cond.code (am_y 24) (am_code 24) (am_mxl 24) (am_rt 24)) := rfl
set_option maxRecDepth 20000 in
theorem am_cd25 : lw_tbl[720]? = some (Cond.code (am_y 25) (am_code 25) (am_mxl 25) (am_rt 25)) := rfl
set_option maxRecDepth 20000 in
theorem am_cd26 : lw_tbl[626]? = some (Cond.code (am_y 26) (am_code 26) (am_mxl 26) (am_rt 26)) := rfl
set_option maxRecDepth 20000 in
theorem am_cd27 : lw_tbl[640]? = some (Cond.code (am_y 27) (am_code 27) (am_mxl 27) (am_rt 27)) := rfl
set_option maxRecDepth 20000 in
theorem am_cd28 : lw_tbl[630]? = some (Cond.code (am_y 28) (am_code 28) (am_mxl 28) (am_rt 28)) := rfl
set_option maxRecDepth 20000 in
theorem am_cd29 : lw_tbl[636]? = some (Cond.code (am_y 29) (am_code 29) (am_mxl 29) (am_rt 29)) := rfl
set_option maxRecDepth 20000 in
theorem am_cd30 : lw_tbl[572]? = some (Cond.code (am_y 30) (am_code 30) (am_mxl 30) (am_rt 30)) := rfl
set_option maxRecDepth 20000 in
theorem am_cd31 : lw_tbl[591]? = some (Cond.code (am_y 31) (am_code 31) (am_mxl 31) (am_rt 31)) := rfl
set_option maxRecDepth 20000 in
theorem am_cd32 : lw_tbl[576]? = some (Cond.code (am_y 32) (am_code 32) (am_mxl 32) (am_rt 32)) := rfl
set_option maxRecDepth 20000 in
theorem am_cd33 : lw_tbl[581]? = some (Cond.code (am_y 33) (am_code 33) (am_mxl 33) (am_rt 33)) := rfl
set_option maxRecDepth 20000 in
theorem am_cd34 : lw_tbl[587]? = some (Cond.code (am_y 34) (am_code 34) (am_mxl 34) (am_rt 34)) := rfl
set_option maxRecDepth 20000 in
theorem am_cd35 : lw_tbl[442]? = some (Cond.code (am_y 35) (am_code 35) (am_mxl 35) (am_rt 35)) := rfl
set_option maxRecDepth 20000 in
theorem am_cd36 : lw_tbl[446]? = some (Cond.code (am_y 36) (am_code 36) (am_mxl 36) (am_rt 36)) := rfl
set_option maxRecDepth 20000 in
theorem am_cd37 : lw_tbl[450]? = some (Cond.code (am_y 37) (am_code 37) (am_mxl 37) (am_rt 37)) := rfl
set_option maxRecDepth 20000 in
theorem am_cd38 : lw_tbl[462]? = some (Cond.code (am_y 38) (am_code 38) (am_mxl 38) (am_rt 38)) := rfl
set_option maxRecDepth 20000 in
theorem am_cd39 : lw_tbl[454]? = some (Cond.code (am_y 39) (am_code 39) (am_mxl 39) (am_rt 39)) := rfl
set_option maxRecDepth 20000 in
theorem am_cd40 : lw_tbl[458]? = some (Cond.code (am_y 40) (am_code 40) (am_mxl 40) (am_rt 40)) := rfl
set_option maxRecDepth 20000 in
theorem am_cd41 : lw_tbl[556]? = some (Cond.code (am_y 41) (am_code 41) (am_mxl 41) (am_rt 41)) := rfl
set_option maxRecDepth 20000 in
theorem am_cd42 : lw_tbl[552]? = some (Cond.code (am_y 42) (am_code 42) (am_mxl 42) (am_rt 42)) := rfl
set_option maxRecDepth 20000 in
theorem am_cd43 : lw_tbl[560]? = some (Cond.code (am_y 43) (am_code 43) (am_mxl 43) (am_rt 43)) := rfl
set_option maxRecDepth 20000 in
theorem am_cd44 : lw_tbl[401]? = some (Cond.code (am_y 44) (am_code 44) (am_mxl 44) (am_rt 44)) := rfl
set_option maxRecDepth 20000 in
theorem am_cd45 : lw_tbl[413]? = some (Cond.code (am_y 45) (am_code 45) (am_mxl 45) (am_rt 45)) := rfl
set_option maxRecDepth 20000 in
theorem am_cd46 : lw_tbl[430]? = some (Cond.code (am_y 46) (am_code 46) (am_mxl 46) (am_rt 46)) := rfl
set_option maxRecDepth 20000 in
theorem am_cd47 : lw_tbl[434]? = some (Cond.code (am_y 47) (am_code 47) (am_mxl 47) (am_rt 47)) := rfl
set_option maxRecDepth 20000 in
theorem am_cd48 : lw_tbl[416]? = some (Cond.code (am_y 48) (am_code 48) (am_mxl 48) (am_rt 48)) := rfl
set_option maxRecDepth 20000 in
theorem am_cd49 : lw_tbl[422]? = some (Cond.code (am_y 49) (am_code 49) (am_mxl 49) (am_rt 49)) := rfl
set_option maxRecDepth 20000 in
theorem am_cd50 : lw_tbl[419]? = some (Cond.code (am_y 50) (am_code 50) (am_mxl 50) (am_rt 50)) := rfl
set_option maxRecDepth 20000 in
theorem am_cd51 : lw_tbl[394]? = some (Cond.code (am_y 51) (am_code 51) (am_mxl 51) (am_rt 51)) := rfl
set_option maxRecDepth 20000 in
theorem am_cd52 : lw_tbl[405]? = some (Cond.code (am_y 52) (am_code 52) (am_mxl 52) (am_rt 52)) := rfl
set_option maxRecDepth 20000 in
theorem am_cd53 : lw_tbl[409]? = some (Cond.code (am_y 53) (am_code 53) (am_mxl 53) (am_rt 53)) := rfl
set_option maxRecDepth 20000 in
theorem am_cd54 : lw_tbl[426]? = some (Cond.code (am_y 54) (am_code 54) (am_mxl 54) (am_rt 54)) := rfl
set_option maxRecDepth 20000 in
theorem am_cd55 : lw_tbl[466]? = some (Cond.code (am_y 55) (am_code 55) (am_mxl 55) (am_rt 55)) := rfl
set_option maxRecDepth 20000 in
theorem am_cd56 : lw_tbl[470]? = some (Cond.code (am_y 56) (am_code 56) (am_mxl 56) (am_rt 56)) := rfl
set_option maxRecDepth 20000 in
theorem am_cd57 : lw_tbl[522]? = some (Cond.code (am_y 57) (am_code 57) (am_mxl 57) (am_rt 57)) := rfl
set_option maxRecDepth 20000 in
theorem am_cd58 : lw_tbl[527]? = some (Cond.code (am_y 58) (am_code 58) (am_mxl 58) (am_rt 58)) := rfl
set_option maxRecDepth 20000 in
theorem am_cd59 : lw_tbl[531]? = some (Cond.code (am_y 59) (am_code 59) (am_mxl 59) (am_rt 59)) := rfl
set_option maxRecDepth 20000 in
theorem am_cd60 : lw_tbl[536]? = some (Cond.code (am_y 60) (am_code 60) (am_mxl 60) (am_rt 60)) := rfl
set_option maxRecDepth 20000 in
theorem am_cd61 : lw_tbl[540]? = some (Cond.code (am_y 61) (am_code 61) (am_mxl 61) (am_rt 61)) := rfl
set_option maxRecDepth 20000 in
theorem am_cd62 : lw_tbl[548]? = some (Cond.code (am_y 62) (am_code 62) (am_mxl 62) (am_rt 62)) := rfl
set_option maxRecDepth 20000 in
theorem am_cd63 : lw_tbl[564]? = some (Cond.code (am_y 63) (am_code 63) (am_mxl 63) (am_rt 63)) := rfl
set_option maxRecDepth 20000 in
theorem am_cd64 : lw_tbl[595]? = some (Cond.code (am_y 64) (am_code 64) (am_mxl 64) (am_rt 64)) := rfl
set_option maxRecDepth 20000 in
theorem am_cd65 : lw_tbl[618]? = some (Cond.code (am_y 65) (am_code 65) (am_mxl 65) (am_rt 65)) := rfl
set_option maxRecDepth 20000 in
theorem am_cd66 : lw_tbl[622]? = some (Cond.code (am_y 66) (am_code 66) (am_mxl 66) (am_rt 66)) := rfl
set_option maxRecDepth 20000 in
theorem am_cd67 : lw_tbl[644]? = some (Cond.code (am_y 67) (am_code 67) (am_mxl 67) (am_rt 67)) := rfl
set_option maxRecDepth 20000 in
theorem am_cd68 : lw_tbl[652]? = some (Cond.code (am_y 68) (am_code 68) (am_mxl 68) (am_rt 68)) := rfl
set_option maxRecDepth 20000 in
theorem am_cd69 : lw_tbl[661]? = some (Cond.code (am_y 69) (am_code 69) (am_mxl 69) (am_rt 69)) := rfl
set_option maxRecDepth 20000 in
theorem am_cd70 : lw_tbl[670]? = some (Cond.code (am_y 70) (am_code 70) (am_mxl 70) (am_rt 70)) := rfl
set_option maxRecDepth 20000 in
theorem am_cd71 : lw_tbl[694]? = some (Cond.code (am_y 71) (am_code 71) (am_mxl 71) (am_rt 71)) := rfl
set_option maxRecDepth 20000 in
theorem am_cd72 : lw_tbl[708]? = some (Cond.code (am_y 72) (am_code 72) (am_mxl 72) (am_rt 72)) := rfl
set_option maxRecDepth 20000 in
theorem am_cd73 : lw_tbl[716]? = some (Cond.code (am_y 73) (am_code 73) (am_mxl 73) (am_rt 73)) := rfl
set_option maxRecDepth 20000 in
theorem am_cd74 : lw_tbl[724]? = some (Cond.code (am_y 74) (am_code 74) (am_mxl 74) (am_rt 74)) := rfl
set_option maxRecDepth 20000 in
theorem am_cd75 : lw_tbl[732]? = some (Cond.code (am_y 75) (am_code 75) (am_mxl 75) (am_rt 75)) := rfl
set_option maxRecDepth 20000 in
theorem am_cd76 : lw_tbl[739]? = some (Cond.code (am_y 76) (am_code 76) (am_mxl 76) (am_rt 76)) := rfl
set_option maxRecDepth 20000 in
theorem am_cd77 : lw_tbl[438]? = some (Cond.code (am_y 77) (am_code 77) (am_mxl 77) (am_rt 77)) := rfl
set_option maxRecDepth 20000 in
theorem am_cd78 : lw_tbl[698]? = some (Cond.code (am_y 78) (am_code 78) (am_mxl 78) (am_rt 78)) := rfl
set_option maxRecDepth 20000 in
theorem am_cd79 : lw_tbl[397]? = some (Cond.code (am_y 79) (am_code 79) (am_mxl 79) (am_rt 79)) := rfl
set_option maxRecDepth 20000 in
theorem am_cd80 : lw_tbl[473]? = some (Cond.code (am_y 80) (am_code 80) (am_mxl 80) (am_rt 80)) := rfl
set_option maxRecDepth 20000 in
theorem am_cd81 : lw_tbl[493]? = some (Cond.code (am_y 81) (am_code 81) (am_mxl 81) (am_rt 81)) := rfl
set_option maxRecDepth 20000 in
theorem am_cd82 : lw_tbl[886]? = some (Cond.code (am_y 82) (am_code 82) (am_mxl 82) (am_rt 82)) := rfl
set_option maxRecDepth 20000 in
theorem am_cd83 : lw_tbl[861]? = some (Cond.code (am_y 83) (am_code 83) (am_mxl 83) (am_rt 83)) := rfl
set_option maxRecDepth 20000 in
theorem am_cd84 : lw_tbl[866]? = some (Cond.code (am_y 84) (am_code 84) (am_mxl 84) (am_rt 84)) := rfl
set_option maxRecDepth 20000 in
theorem am_cd85 : lw_tbl[881]? = some (Cond.code (am_y 85) (am_code 85) (am_mxl 85) (am_rt 85)) := rfl
set_option maxRecDepth 20000 in
theorem am_cd86 : lw_tbl[878]? = some (Cond.code (am_y 86) (am_code 86) (am_mxl 86) (am_rt 86)) := rfl
set_option maxRecDepth 20000 in
theorem am_cd87 : lw_tbl[874]? = some (Cond.code (am_y 87) (am_code 87) (am_mxl 87) (am_rt 87)) := rfl
set_option maxRecDepth 20000 in
theorem am_cd88 : lw_tbl[870]? = some (Cond.code (am_y 88) (am_code 88) (am_mxl 88) (am_rt 88)) := rfl
set_option maxRecDepth 20000 in
theorem am_cd89 : lw_tbl[890]? = some (Cond.code (am_y 89) (am_code 89) (am_mxl 89) (am_rt 89)) := rfl
set_option maxRecDepth 20000 in
theorem am_cd90 : lw_tbl[894]? = some (Cond.code (am_y 90) (am_code 90) (am_mxl 90) (am_rt 90)) := rfl
set_option maxRecDepth 20000 in
theorem am_cd91 : lw_tbl[915]? = some (Cond.code (am_y 91) (am_code 91) (am_mxl 91) (am_rt 91)) := rfl
set_option maxRecDepth 20000 in
theorem am_cd92 : lw_tbl[907]? = some (Cond.code (am_y 92) (am_code 92) (am_mxl 92) (am_rt 92)) := rfl
set_option maxRecDepth 20000 in
theorem am_cd93 : lw_tbl[911]? = some (Cond.code (am_y 93) (am_code 93) (am_mxl 93) (am_rt 93)) := rfl
set_option maxRecDepth 20000 in
theorem am_cd94 : lw_tbl[904]? = some (Cond.code (am_y 94) (am_code 94) (am_mxl 94) (am_rt 94)) := rfl
set_option maxRecDepth 20000 in
theorem am_cd95 : lw_tbl[899]? = some (Cond.code (am_y 95) (am_code 95) (am_mxl 95) (am_rt 95)) := rfl
set_option maxRecDepth 20000 in
theorem am_cd96 : lw_tbl[944]? = some (Cond.code (am_y 96) (am_code 96) (am_mxl 96) (am_rt 96)) := rfl
set_option maxRecDepth 20000 in
theorem am_cd97 : lw_tbl[948]? = some (Cond.code (am_y 97) (am_code 97) (am_mxl 97) (am_rt 97)) := rfl
set_option maxRecDepth 20000 in
theorem am_cd98 : lw_tbl[940]? = some (Cond.code (am_y 98) (am_code 98) (am_mxl 98) (am_rt 98)) := rfl
set_option maxRecDepth 20000 in
theorem am_cd99 : lw_tbl[936]? = some (Cond.code (am_y 99) (am_code 99) (am_mxl 99) (am_rt 99)) := rfl
set_option maxRecDepth 20000 in
theorem am_cd100 : lw_tbl[932]? = some (Cond.code (am_y 100) (am_code 100) (am_mxl 100) (am_rt 100)) := rfl
set_option maxRecDepth 20000 in
theorem am_cd101 : lw_tbl[928]? = some (Cond.code (am_y 101) (am_code 101) (am_mxl 101) (am_rt 101)) := rfl
set_option maxRecDepth 20000 in
theorem am_cd102 : lw_tbl[985]? = some (Cond.code (am_y 102) (am_code 102) (am_mxl 102) (am_rt 102)) := rfl
set_option maxRecDepth 20000 in
theorem am_cd103 : lw_tbl[952]? = some (Cond.code (am_y 103) (am_code 103) (am_mxl 103) (am_rt 103)) := rfl
set_option maxRecDepth 20000 in
theorem am_cd104 : lw_tbl[924]? = some (Cond.code (am_y 104) (am_code 104) (am_mxl 104) (am_rt 104)) := rfl
set_option maxRecDepth 20000 in
theorem am_cd105 : lw_tbl[920]? = some (Cond.code (am_y 105) (am_code 105) (am_mxl 105) (am_rt 105)) := rfl
set_option maxRecDepth 20000 in
theorem am_cd106 : lw_tbl[956]? = some (Cond.code (am_y 106) (am_code 106) (am_mxl 106) (am_rt 106)) := rfl
set_option maxRecDepth 20000 in
theorem am_cd107 : lw_tbl[960]? = some (Cond.code (am_y 107) (am_code 107) (am_mxl 107) (am_rt 107)) := rfl
set_option maxRecDepth 20000 in
theorem am_cd108 : lw_tbl[964]? = some (Cond.code (am_y 108) (am_code 108) (am_mxl 108) (am_rt 108)) := rfl
set_option maxRecDepth 20000 in
theorem am_cd109 : lw_tbl[973]? = some (Cond.code (am_y 109) (am_code 109) (am_mxl 109) (am_rt 109)) := rfl
set_option maxRecDepth 20000 in
theorem am_cd110 : lw_tbl[969]? = some (Cond.code (am_y 110) (am_code 110) (am_mxl 110) (am_rt 110)) := rfl
set_option maxRecDepth 20000 in
theorem am_cd111 : lw_tbl[981]? = some (Cond.code (am_y 111) (am_code 111) (am_mxl 111) (am_rt 111)) := rfl
set_option maxRecDepth 20000 in
theorem am_cd112 : lw_tbl[977]? = some (Cond.code (am_y 112) (am_code 112) (am_mxl 112) (am_rt 112)) := rfl
set_option maxRecDepth 20000 in
theorem am_cd113 : lw_tbl[993]? = some (Cond.code (am_y 113) (am_code 113) (am_mxl 113) (am_rt 113)) := rfl
set_option maxRecDepth 20000 in
theorem am_cd114 : lw_tbl[989]? = some (Cond.code (am_y 114) (am_code 114) (am_mxl 114) (am_rt 114)) := rfl
set_option maxRecDepth 20000 in
theorem am_cd115 : lw_tbl[1005]? = some (Cond.code (am_y 115) (am_code 115) (am_mxl 115) (am_rt 115)) := rfl
set_option maxRecDepth 20000 in
theorem am_cd116 : lw_tbl[1001]? = some (Cond.code (am_y 116) (am_code 116) (am_mxl 116) (am_rt 116)) := rfl
set_option maxRecDepth 20000 in
theorem am_cd117 : lw_tbl[997]? = some (Cond.code (am_y 117) (am_code 117) (am_mxl 117) (am_rt 117)) := rfl
set_option maxRecDepth 20000 in
theorem am_cd118 : lw_tbl[1013]? = some (Cond.code (am_y 118) (am_code 118) (am_mxl 118) (am_rt 118)) := rfl
set_option maxRecDepth 20000 in
theorem am_cd119 : lw_tbl[1009]? = some (Cond.code (am_y 119) (am_code 119) (am_mxl 119) (am_rt 119)) := rfl
set_option maxRecDepth 20000 in
theorem am_cd120 : lw_tbl[1025]? = some (Cond.code (am_y 120) (am_code 120) (am_mxl 120) (am_rt 120)) := rfl
set_option maxRecDepth 20000 in
theorem am_cd121 : lw_tbl[1021]? = some (Cond.code (am_y 121) (am_code 121) (am_mxl 121) (am_rt 121)) := rfl
set_option maxRecDepth 20000 in
theorem am_cd122 : lw_tbl[1017]? = some (Cond.code (am_y 122) (am_code 122) (am_mxl 122) (am_rt 122)) := rfl
set_option maxRecDepth 20000 in
theorem am_cd123 : lw_tbl[1037]? = some (Cond.code (am_y 123) (am_code 123) (am_mxl 123) (am_rt 123)) := rfl
set_option maxRecDepth 20000 in
theorem am_cd124 : lw_tbl[1033]? = some (Cond.code (am_y 124) (am_code 124) (am_mxl 124) (am_rt 124)) := rfl
set_option maxRecDepth 20000 in
theorem am_cd125 : lw_tbl[1029]? = some (Cond.code (am_y 125) (am_code 125) (am_mxl 125) (am_rt 125)) := rfl
set_option maxRecDepth 20000 in
theorem am_cd126 : lw_tbl[1045]? = some (Cond.code (am_y 126) (am_code 126) (am_mxl 126) (am_rt 126)) := rfl
set_option maxRecDepth 20000 in
theorem am_cd127 : lw_tbl[1041]? = some (Cond.code (am_y 127) (am_code 127) (am_mxl 127) (am_rt 127)) := rfl
set_option maxRecDepth 20000 in
theorem am_cd128 : lw_tbl[1053]? = some (Cond.code (am_y 128) (am_code 128) (am_mxl 128) (am_rt 128)) := rfl
set_option maxRecDepth 20000 in
theorem am_cd129 : lw_tbl[1049]? = some (Cond.code (am_y 129) (am_code 129) (am_mxl 129) (am_rt 129)) := rfl
set_option maxRecDepth 20000 in
theorem am_cd130 : lw_tbl[1067]? = some (Cond.code (am_y 130) (am_code 130) (am_mxl 130) (am_rt 130)) := rfl
set_option maxRecDepth 20000 in
theorem am_cd131 : lw_tbl[1063]? = some (Cond.code (am_y 131) (am_code 131) (am_mxl 131) (am_rt 131)) := rfl
set_option maxRecDepth 20000 in
theorem am_cd132 : lw_tbl[1057]? = some (Cond.code (am_y 132) (am_code 132) (am_mxl 132) (am_rt 132)) := rfl
set_option maxRecDepth 20000 in
theorem am_cd133 : lw_tbl[1075]? = some (Cond.code (am_y 133) (am_code 133) (am_mxl 133) (am_rt 133)) := rfl
set_option maxRecDepth 20000 in
theorem am_cd134 : lw_tbl[1071]? = some (Cond.code (am_y 134) (am_code 134) (am_mxl 134) (am_rt 134)) := rfl
set_option maxRecDepth 20000 in
theorem am_cd135 : lw_tbl[1079]? = some (Cond.code (am_y 135) (am_code 135) (am_mxl 135) (am_rt 135)) := rfl
set_option maxRecDepth 20000 in
theorem am_cd136 : lw_tbl[1083]? = some (Cond.code (am_y 136) (am_code 136) (am_mxl 136) (am_rt 136)) := rfl
set_option maxRecDepth 20000 in
theorem am_cd137 : lw_tbl[1095]? = some (Cond.code (am_y 137) (am_code 137) (am_mxl 137) (am_rt 137)) := rfl
set_option maxRecDepth 20000 in
theorem am_cd138 : lw_tbl[1091]? = some (Cond.code (am_y 138) (am_code 138) (am_mxl 138) (am_rt 138)) := rfl
set_option maxRecDepth 20000 in
theorem am_cd139 : lw_tbl[1087]? = some (Cond.code (am_y 139) (am_code 139) (am_mxl 139) (am_rt 139)) := rfl
set_option maxRecDepth 20000 in
theorem am_cd140 : lw_tbl[1104]? = some (Cond.code (am_y 140) (am_code 140) (am_mxl 140) (am_rt 140)) := rfl
set_option maxRecDepth 20000 in
theorem am_cd141 : lw_tbl[1099]? = some (Cond.code (am_y 141) (am_code 141) (am_mxl 141) (am_rt 141)) := rfl
set_option maxRecDepth 20000 in
theorem am_cd142 : lw_tbl[701]? = some (Cond.code (am_y 142) (am_code 142) (am_mxl 142) (am_rt 142)) := rfl
set_option maxRecDepth 20000 in
theorem am_cd : ∀ q, q < am_NM → lw_tbl[am_pco q]? = some (Cond.code (am_y q) (am_code q) (am_mxl q) (am_rt q)) := fun q hq => match q, hq with
  | 0, _ => am_cd0
  | 1, _ => am_cd1
  | 2, _ => am_cd2
  | 3, _ => am_cd3
  | 4, _ => am_cd4
  | 5, _ => am_cd5
  | 6, _ => am_cd6
  | 7, _ => am_cd7
  | 8, _ => am_cd8
  | 9, _ => am_cd9
  | 10, _ => am_cd10
  | 11, _ => am_cd11
  | 12, _ => am_cd12
  | 13, _ => am_cd13
  | 14, _ => am_cd14
  | 15, _ => am_cd15
  | 16, _ => am_cd16
  | 17, _ => am_cd17
  | 18, _ => am_cd18
  | 19, _ => am_cd19
  | 20, _ => am_cd20
  | 21, _ => am_cd21
  | 22, _ => am_cd22
  | 23, _ => am_cd23
  | 24, _ => am_cd24
  | 25, _ => am_cd25
  | 26, _ => am_cd26
  | 27, _ => am_cd27
  | 28, _ => am_cd28
  | 29, _ => am_cd29
  | 30, _ => am_cd30
  | 31, _ => am_cd31
  | 32, _ => am_cd32
  | 33, _ => am_cd33
  | 34, _ => am_cd34
  | 35, _ => am_cd35
  | 36, _ => am_cd36
  | 37, _ => am_cd37
  | 38, _ => am_cd38
  | 39, _ => am_cd39
  | 40, _ => am_cd40
  | 41, _ => am_cd41
  | 42, _ => am_cd42
  | 43, _ => am_cd43
  | 44, _ => am_cd44
  | 45, _ => am_cd45
  | 46, _ => am_cd46
  | 47, _ => am_cd47
  | 48, _ => am_cd48
  | 49, _ => am_cd49
  | 50, _ => am_cd50
  | 51, _ => am_cd51
  | 52, _ => am_cd52
  | 53, _ => am_cd53
  | 54, _ => am_cd54
  | 55, _ => am_cd55
  | 56, _ => am_cd56
  | 57, _ => am_cd57
  | 58, _ => am_cd58
  | 59, _ => am_cd59
  | 60, _ => am_cd60
  | 61, _ => am_cd61
  | 62, _ => am_cd62
  | 63, _ => am_cd63
  | 64, _ => am_cd64
  | 65, _ => am_cd65
  | 66, _ => am_cd66
  | 67, _ => am_cd67
  | 68, _ => am_cd68
  | 69, _ => am_cd69
  | 70, _ => am_cd70
  | 71, _ => am_cd71
  | 72, _ => am_cd72
  | 73, _ => am_cd73
  | 74, _ => am_cd74
  | 75, _ => am_cd75
  | 76, _ => am_cd76
  | 77, _ => am_cd77
  | 78, _ => am_cd78
  | 79, _ => am_cd79
  | 80, _ => am_cd80
  | 81, _ => am_cd81
  | 82, _ => am_cd82
  | 83, _ => am_cd83
  | 84, _ => am_cd84
  | 85, _ => am_cd85
  | 86, _ => am_cd86
  | 87, _ => am_cd87
  | 88, _ => am_cd88
  | 89, _ => am_cd89
  | 90, _ => am_cd90
  | 91, _ => am_cd91
  | 92, _ => am_cd92
  | 93, _ => am_cd93
  | 94, _ => am_cd94
  | 95, _ => am_cd95
  | 96, _ => am_cd96
  | 97, _ => am_cd97
  | 98, _ => am_cd98
  | 99, _ => am_cd99
  | 100, _ => am_cd100
  | 101, _ => am_cd101
  | 102, _ => am_cd102
  | 103, _ => am_cd103
  | 104, _ => am_cd104
  | 105, _ => am_cd105
  | 106, _ => am_cd106
  | 107, _ => am_cd107
  | 108, _ => am_cd108
  | 109, _ => am_cd109
  | 110, _ => am_cd110
  | 111, _ => am_cd111
  | 112, _ => am_cd112
  | 113, _ => am_cd113
  | 114, _ => am_cd114
  | 115, _ => am_cd115
  | 116, _ => am_cd116
  | 117, _ => am_cd117
  | 118, _ => am_cd118
  | 119, _ => am_cd119
  | 120, _ => am_cd120
  | 121, _ => am_cd121
  | 122, _ => am_cd122
  | 123, _ => am_cd123
  | 124, _ => am_cd124
  | 125, _ => am_cd125
  | 126, _ => am_cd126
  | 127, _ => am_cd127
  | 128, _ => am_cd128
  | 129, _ => am_cd129
  | 130, _ => am_cd130
  | 131, _ => am_cd131
  | 132, _ => am_cd132
  | 133, _ => am_cd133
  | 134, _ => am_cd134
  | 135, _ => am_cd135
  | 136, _ => am_cd136
  | 137, _ => am_cd137
  | 138, _ => am_cd138
  | 139, _ => am_cd139
  | 140, _ => am_cd140
  | 141, _ => am_cd141
  | 142, _ => am_cd142
  | q + 143, hq => absurd hq (by show ¬ q + 143 < 143; omega)
def am_Mok (q : Nat) : Prop := Cond.code (am_y q) (am_code q) (am_mxl q) (am_rt q) ∈ am_tb ∧ plainName (am_y q).cls = true ∧ (am_y q).cls = am_R (am_cl q) ∧ (am_y q).cls ≠ "java/lang/invoke/MethodHandle" ∧ (am_y q).cls ≠ "java/lang/invoke/VarHandle" ∧ (parseMethodDescriptor (am_y q).desc).map (fun d => d.parameters.length) = some (am_np q) ∧ am_mxl q ≤ 40 ∧ Cond.initialized (am_y q).cls ∈ am_tb ∧ (am_st q = true → Cond.static (am_y q) ∈ am_tb) ∧ (am_st q = false → Cond.instanceMethod (am_y q) ∈ am_tb ∧ Cond.selects (am_y q).cls (am_y q) (am_y q) ∈ am_tb)
theorem am_mok {q : Nat} (hq : q < am_NM) : am_Mok q := by
  have h := List.all_eq_true.mp am_mok0 q (List.mem_range.mpr hq)
  unfold am_mchk at h
  simp only [Bool.and_eq_true, decide_eq_true_eq] at h
  obtain ⟨⟨⟨⟨⟨⟨⟨h2, h3⟩, h4⟩, h5⟩, h6⟩, h7⟩, h8⟩, h9⟩ := h
  refine ⟨am_tb_of (List.mem_of_getElem? (am_cd q hq)) rfl, h2, h3, h4, h5, h6, h7, am_tb_of (List.mem_of_getElem? h8) rfl, fun hs => ?_, fun hs => ?_⟩
  · rw [if_pos hs] at h9
    exact am_tb_of (List.mem_of_getElem? (of_decide_eq_true h9)) rfl
  · rw [if_neg (by rw [hs]; decide)] at h9
    simp only [Bool.and_eq_true, decide_eq_true_eq] at h9
    exact ⟨am_tb_of (List.mem_of_getElem? h9.1) rfl, am_tb_of (List.mem_of_getElem? h9.2) rfl⟩
theorem am_mr_ok {own i q : Nat} (h : am_mr own i = some q) : Cond.methodLink (am_R own) i (am_y q) ∈ am_tb := by
  unfold am_mr at h
  obtain ⟨x, h1, h2⟩ := Option.map_eq_some_iff.mp h
  have h3 := List.find?_some h1
  have h4 := List.all_eq_true.mp am_cok x (List.mem_of_find?_eq_some h1)
  simp only [Bool.and_eq_true, beq_iff_eq] at h3
  obtain ⟨a, b, y, z⟩ := x
  dsimp only at h2 h3
  obtain ⟨rfl, rfl⟩ := h3
  subst h2
  exact am_tb_of (List.mem_of_getElem? (of_decide_eq_true h4)) rfl
theorem am_ki_ok {own i : Nat} {v : Int32} (h : am_ki own i = some v) : Cond.constant (am_R own) i v ∈ am_tb := by
  unfold am_ki at h
  obtain ⟨x, h1, h2⟩ := Option.map_eq_some_iff.mp h
  have h3 := List.find?_some h1
  have h4 := List.all_eq_true.mp am_kiok x (List.mem_of_find?_eq_some h1)
  simp only [Bool.and_eq_true, beq_iff_eq] at h3
  obtain ⟨a, b, y, z⟩ := x
  dsimp only at h2 h3
  obtain ⟨rfl, rfl⟩ := h3
  subst h2
  exact am_tb_of (List.mem_of_getElem? (of_decide_eq_true h4)) rfl
theorem am_kl_ok {own i : Nat} {v : Int64} (h : am_kl own i = some v) : Cond.constantLong (am_R own) i v ∈ am_tb := by
  unfold am_kl at h
  obtain ⟨x, h1, h2⟩ := Option.map_eq_some_iff.mp h
  have h3 := List.find?_some h1
  have h4 := List.all_eq_true.mp am_klok x (List.mem_of_find?_eq_some h1)
  simp only [Bool.and_eq_true, beq_iff_eq] at h3
  obtain ⟨a, b, y, z⟩ := x
  dsimp only at h2 h3
  obtain ⟨rfl, rfl⟩ := h3
  subst h2
  exact am_tb_of (List.mem_of_getElem? (of_decide_eq_true h4)) rfl
theorem am_goodIn {ws : List Cond} (h : ∀ w ∈ ws, w ∈ am_tb) : GoodIn am_tb ws := fun w hw => ⟨h w hw, good_of_word (List.mem_filter.mp (h w hw)).2⟩
def am_mName (b : Bool) : MethodName := if b = true then Lib.Math.max.name else Lib.Math.min.name
set_option maxRecDepth 20000 in
theorem am_mxok : am_maths.all (fun q => decide (lw_tbl[q.2.2.2]? = some (Cond.methodLink (am_R q.1) q.2.1 (am_mName q.2.2.1)))) = true := by decide +kernel
theorem am_mm_ok {own i : Nat} {v : Bool} (h : am_mm own i = some v) : Cond.methodLink (am_R own) i (am_mName v) ∈ am_tb := by
  unfold am_mm at h
  obtain ⟨x, h1, h2⟩ := Option.map_eq_some_iff.mp h
  have h3 := List.find?_some h1
  have h4 := List.all_eq_true.mp am_mxok x (List.mem_of_find?_eq_some h1)
  simp only [Bool.and_eq_true, beq_iff_eq] at h3
  obtain ⟨a, b, y, z⟩ := x
  dsimp only at h2 h3
  obtain ⟨rfl, rfl⟩ := h3
  subst h2
  exact am_tb_of (List.mem_of_getElem? (of_decide_eq_true h4)) rfl
set_option maxRecDepth 20000 in
theorem am_mx1 : Cond.code Lib.Math.max.name Lib.Math.max.code 2 (some .int) ∈ am_tb := am_tb_of (List.mem_of_getElem? (i := 508) (by decide +kernel)) rfl
set_option maxRecDepth 20000 in
theorem am_mx2 : Cond.code Lib.Math.min.name Lib.Math.min.code 2 (some .int) ∈ am_tb := am_tb_of (List.mem_of_getElem? (i := 518) (by decide +kernel)) rfl
set_option maxRecDepth 20000 in
theorem am_mx3 : Cond.static Lib.Math.max.name ∈ am_tb := am_tb_of (List.mem_of_getElem? (i := 507) (by decide +kernel)) rfl
set_option maxRecDepth 20000 in
theorem am_mx4 : Cond.static Lib.Math.min.name ∈ am_tb := am_tb_of (List.mem_of_getElem? (i := 517) (by decide +kernel)) rfl
set_option maxRecDepth 20000 in
theorem am_mx5 : Cond.initialized "java/lang/Math" ∈ am_tb := am_tb_of (List.mem_of_getElem? (i := 65) (by decide +kernel)) rfl
