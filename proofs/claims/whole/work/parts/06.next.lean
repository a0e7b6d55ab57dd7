/-! one step of the abstract machine is one step of the machine -/
section AMX
variable {p : Program} {l : Launch} {e : Env} {R : Room} {s : State} {mi : MethodId} {args : Array Value} {below : List Frame} {meth : Method} {c : Code} {H : Heap} {locs : List Loc} {cells slots : Nat} {Q : State → Prop}
variable {dC : Nat → ClassId} {dI : Nat → Nat → Nat} {adr : Nat → Nat} {cI cZ : ClassId} {A : Nat → Prop} {H0 : Heap}
variable {m pc : Nat} {ls st : List Value} {σ : am_St} {τ : Int64} {lsj : Array Slot}
theorem am_n_ldi {cc : ByteArray} {n i pc' pc0 : Nat} {ls' st' : List Value} {σ' : am_St} {τ' : Int64} (hl : lv_has lsj n (am_la adr ls)) (h : am_ldi pc0 (ls.getD i .null) ls st σ τ = am_nx pc' ls' st' σ' τ') : ∃ x : Int32, lsj[i]? = some (.val (.int x)) ∧ pc' = pc0 ∧ ls' = ls ∧ st' = .int x :: st ∧ σ' = σ ∧ τ' = τ := by
  unfold am_ldi at h
  split at h
  · rename_i x hx
    obtain ⟨rfl, rfl, rfl, rfl, rfl⟩ := am_nx_inj h
    exact ⟨x, am_la_get hl hx (fun q => by cases q), rfl, rfl, rfl, rfl, rfl⟩
  · cases h
theorem am_n_ldl {cc : ByteArray} {n i pc' pc0 : Nat} {ls' st' : List Value} {σ' : am_St} {τ' : Int64} (hl : lv_has lsj n (am_la adr ls)) (h : am_ldl pc0 (ls.getD i .null) ls st σ τ = am_nx pc' ls' st' σ' τ') : ∃ x : Int64, lsj[i]? = some (.val (.long x)) ∧ pc' = pc0 ∧ ls' = ls ∧ st' = .long x :: st ∧ σ' = σ ∧ τ' = τ := by
  unfold am_ldl at h
  split at h
  · rename_i x hx
    obtain ⟨rfl, rfl, rfl, rfl, rfl⟩ := am_nx_inj h
    exact ⟨x, am_la_get hl hx (fun q => by cases q), rfl, rfl, rfl, rfl, rfl⟩
  · cases h
theorem am_n_lda {cc : ByteArray} {n i pc' pc0 : Nat} {ls' st' : List Value} {σ' : am_St} {τ' : Int64} (hl : lv_has lsj n (am_la adr ls)) (h : am_lda pc0 (ls.getD i .null) ls st σ τ = am_nx pc' ls' st' σ' τ') : ∃ x : Nat, lsj[i]? = some (.val (.ref (adr x))) ∧ pc' = pc0 ∧ ls' = ls ∧ st' = .ref x :: st ∧ σ' = σ ∧ τ' = τ := by
  unfold am_lda at h
  split at h
  · rename_i x hx
    obtain ⟨rfl, rfl, rfl, rfl, rfl⟩ := am_nx_inj h
    exact ⟨x, am_la_get hl hx (fun q => by cases q), rfl, rfl, rfl, rfl, rfl⟩
  · cases h
theorem am_n_sti {n i pc' pc0 : Nat} {ls' st' : List Value} {σ' : am_St} {τ' : Int64} (h : am_sti pc0 n i ls st σ τ = am_nx pc' ls' st' σ' τ') : ∃ x : Int32, st = .int x :: st' ∧ i < n ∧ pc' = pc0 ∧ ls' = am_set1 ls i (.int x) ∧ σ' = σ ∧ τ' = τ := by
  unfold am_sti at h
  split at h
  · split at h
    · rename_i x st2 hi
      obtain ⟨rfl, rfl, rfl, rfl, rfl⟩ := am_nx_inj h
      exact ⟨x, rfl, hi, rfl, rfl, rfl, rfl⟩
    · cases h
  · cases h
theorem am_n_stl {n i pc' pc0 : Nat} {ls' st' : List Value} {σ' : am_St} {τ' : Int64} (h : am_stl pc0 n i ls st σ τ = am_nx pc' ls' st' σ' τ') : ∃ x : Int64, st = .long x :: st' ∧ i + 1 < n ∧ pc' = pc0 ∧ ls' = am_set2 ls i (.long x) ∧ σ' = σ ∧ τ' = τ := by
  unfold am_stl at h
  split at h
  · split at h
    · rename_i x st2 hi
      obtain ⟨rfl, rfl, rfl, rfl, rfl⟩ := am_nx_inj h
      exact ⟨x, rfl, hi, rfl, rfl, rfl, rfl⟩
    · cases h
  · cases h
theorem am_n_i2 {f : Int32 → Int32 → Int32} {pc' : Nat} {ls' st' : List Value} {σ' : am_St} {τ' : Int64} (h : am_i2 f pc ls st σ τ = am_nx pc' ls' st' σ' τ') : ∃ (x y : Int32) (st2 : List Value), st = .int y :: .int x :: st2 ∧ pc' = pc + 1 ∧ ls' = ls ∧ st' = .int (f x y) :: st2 ∧ σ' = σ ∧ τ' = τ := by
  unfold am_i2 at h
  split at h
  · obtain ⟨rfl, rfl, rfl, rfl, rfl⟩ := am_nx_inj h
    exact ⟨_, _, _, rfl, rfl, rfl, rfl, rfl, rfl⟩
  · cases h
theorem am_n_d2 {f : Int32 → Int32 → Int32} {pc' : Nat} {ls' st' : List Value} {σ' : am_St} {τ' : Int64} (h : am_d2 f pc ls st σ τ = am_nx pc' ls' st' σ' τ') : ∃ (x y : Int32) (st2 : List Value), ¬ y = 0 ∧ st = .int y :: .int x :: st2 ∧ pc' = pc + 1 ∧ ls' = ls ∧ st' = .int (f x y) :: st2 ∧ σ' = σ ∧ τ' = τ := by
  unfold am_d2 at h
  split at h
  · split at h
    · cases h
    · rename_i hy
      obtain ⟨rfl, rfl, rfl, rfl, rfl⟩ := am_nx_inj h
      exact ⟨_, _, _, hy, rfl, rfl, rfl, rfl, rfl, rfl⟩
  · cases h
theorem am_n_l2 {f : Int64 → Int64 → Int64} {pc' : Nat} {ls' st' : List Value} {σ' : am_St} {τ' : Int64} (h : am_l2 f pc ls st σ τ = am_nx pc' ls' st' σ' τ') : ∃ (x y : Int64) (st2 : List Value), st = .long y :: .long x :: st2 ∧ pc' = pc + 1 ∧ ls' = ls ∧ st' = .long (f x y) :: st2 ∧ σ' = σ ∧ τ' = τ := by
  unfold am_l2 at h
  split at h
  · obtain ⟨rfl, rfl, rfl, rfl, rfl⟩ := am_nx_inj h
    exact ⟨_, _, _, rfl, rfl, rfl, rfl, rfl, rfl⟩
  · cases h
theorem am_n_getf {cc : ByteArray} {own i pc' : Nat} {ls' st' : List Value} {σ' : am_St} {τ' : Int64} (hx : p.tables.exec = Jvm.exec) (hb : c.code = cc) (hts : ∀ w ∈ am_tb, w.before args s = true) (hown : s.vm.findClass (am_R own) = some mi.cls) (hK : va_K (dC, dI) vwCl (am_ty cI cZ) s) (hW : am_Wd dC dI adr cI cZ A σ τ H) (hd : decode cc pc = .ok (.getfield i, 3)) (h : am_getf own i (pc + 3) ls st σ τ = am_nx pc' ls' st' σ' τ')
    (kk : ls' = ls → σ' = σ → τ' = τ → W p l e R s mi args below meth c H locs cells slots Q (F0 mi pc' lsj (st'.map (am_cv adr)))) : W p l e R s mi args below meth c H locs cells slots Q (F0 mi pc lsj (st.map (am_cv adr))) := by
  unfold am_getf at h
  split at h
  · rename_i k st2
    split at h
    · rename_i ci j cj fds hfr hsh
      split at h
      · rename_i hc
        subst hc
        split at h
        · rename_i f hf
          obtain ⟨rfl, rfl, rfl, rfl, rfl⟩ := am_nx_inj h
          obtain ⟨C, T, N, hcl, hj, hlk, hT1⟩ := am_fr_ok hfr
          have hlt : j < fds.length := (List.getElem?_eq_some_iff.mp hf).1
          refine va_get (D := (dC, dI)) (v := am_fv adr σ τ k j f) hx hb hts (am_cls_ok hcl).1 hown hK hW.1 k (am_obj hsh) hcl j hj (hts _ hlk) (fun x h => by rw [hT1] at h; exact h) ?_ hd (kk rfl rfl rfl)
          rw [List.getElem?_map, List.getElem?_range hlt, Option.map_some, List.getD_eq_getElem?_getD, hf]
          rfl
        · cases h
      · cases h
    · cases h
  · cases h
theorem am_nb {x : Int32} (h : x = 0 ∨ x = 1) : narrow .boolean (.int x) = .int x ∧ fits .boolean (.int x) = true := by
  rcases h with rfl | rfl <;> decide
def am_f42 : List Nat := match am_sh 42 with
  | some (.inr (_, fds)) => fds
  | _ => []
theorem am_sh42 : am_sh 42 = some (.inr (10, am_f42)) := rfl
theorem am_f42a : ∀ i, i < am_f42.length → i ≠ 35 → am_f42.getD i 0 ≠ 1 := by decide +kernel
theorem am_f42b : am_f42[35]? = some 1 := by decide +kernel
theorem am_no1 : (List.range am_N).all (fun a => decide (a = 42) || (match am_sh a with | some (.inr (_, fds)) => fds.all (fun f => decide (f ≠ 1)) | _ => true)) = true := by decide +kernel
theorem am_fv_no1 {σ : am_St} {τ τ' : Int64} {k j f : Nat} (h : f ≠ 1) : am_fv adr σ τ k j f = am_fv adr σ τ' k j f := by
  unfold am_fv am_fv0
  split <;> first | rfl | exact absurd rfl h
theorem am_wc_no1 {σ : am_St} {τ τ' : Int64} {a : Nat} (ha : a < am_N) (h : a ≠ 42) : am_wc adr cI cZ σ τ a = am_wc adr cI cZ σ τ' a := by
  have h1 := List.all_eq_true.mp am_no1 a (List.mem_range.mpr ha)
  simp only [Bool.or_eq_true, decide_eq_true_eq, h, false_or] at h1
  unfold am_wc
  split
  · rfl
  · rename_i ci fds hs
    rw [hs] at h1
    dsimp only at h1
    congr 2
    apply List.map_congr_left
    intro j hj
    have hj := List.mem_range.mp hj
    apply am_fv_no1
    rw [List.getD_eq_getElem?_getD, List.getElem?_eq_getElem hj]
    have h2 := List.all_eq_true.mp h1 _ (List.getElem_mem hj)
    exact of_decide_eq_true h2
  · rfl
theorem am_long_set {x : Int64} : (am_ws adr cI cZ σ τ).set 42 (adr 42, .inr (10, ((List.range am_f42.length).map (fun j => am_fv adr σ τ 42 j (am_f42.getD j 0))).set 35 (.long x))) = am_ws adr cI cZ σ x := by
  refine am_ws_set 42 _ ?_ (fun a ha hn => am_wc_no1 ha hn)
  unfold am_wc
  rw [am_sh42]
  dsimp only
  congr 2
theorem am_putL {cc : ByteArray} {rest : List Value} {own i : Nat} {x : Int64} (hx : p.tables.exec = Jvm.exec) (hb : c.code = cc) (hts : ∀ w ∈ am_tb, w.before args s = true) (hown : s.vm.findClass (am_R own) = some mi.cls) (hK : va_K (dC, dI) vwCl (am_ty cI cZ) s) (hW : am_Wd dC dI adr cI cZ A σ τ H) (hS : va_S A H0 H locs) (hfr : am_fr own i = some (10, 35)) (hd : decode cc pc = .ok (.putfield i, 3))
    (kk : ∀ (H1 : Heap) (locs1 : List Loc), am_Wd dC dI adr cI cZ A σ x H1 → va_S A H0 H1 locs1 → W p l e R s mi args below meth c H1 locs1 cells slots Q (F0 mi (pc + 3) lsj rest)) : W p l e R s mi args below meth c H locs cells slots Q (F0 mi pc lsj (.long x :: .ref (adr 42) :: rest)) := by
  obtain ⟨C, T, N, hcl, hj, hlk, hT1⟩ := am_fr_ok hfr
  obtain ⟨C2, T2, N2, hcl2, hlen, hC, hall⟩ := am_sh_ok am_sh42
  cases hcl.symm.trans hcl2
  obtain ⟨h1, ⟨ty0, h2⟩, h3⟩ := am_cls_ok hcl
  have hj4 := hall 35 hj
  rw [am_f42b] at hj4
  simp only [am_schj, Bool.and_eq_true, decide_eq_true_eq] at hj4
  refine va_put (D := (dC, dI)) (ty := .long) hx hb hts h1 ty0 h2 h3 hown hK hW.1 hW.2 hS 42 (am_obj am_sh42) hcl 35 hj (hts _ hlk) (fun x h => by rw [hT1] at h; exact h) hj4.2 hj4.1 rfl rfl (by rw [List.length_map, List.length_range, hlen]; exact hj) hd (fun H1 locs1 g1 g2 g3 => ?_)
  rw [am_long_set] at g1 g2
  exact kk H1 locs1 ⟨g1, g2⟩ g3
theorem am_n_putf {cc : ByteArray} {own i pc' : Nat} {ls' st' : List Value} {σ' : am_St} {τ' : Int64} (hx : p.tables.exec = Jvm.exec) (hb : c.code = cc) (hts : ∀ w ∈ am_tb, w.before args s = true) (hown : s.vm.findClass (am_R own) = some mi.cls) (hK : va_K (dC, dI) vwCl (am_ty cI cZ) s) (hW : am_Wd dC dI adr cI cZ A σ τ H) (hS : va_S A H0 H locs) (hd : decode cc pc = .ok (.putfield i, 3)) (h : am_putf own i (pc + 3) ls st σ τ = am_nx pc' ls' st' σ' τ')
    (kk : ls' = ls → ∀ (H1 : Heap) (locs1 : List Loc), am_Wd dC dI adr cI cZ A σ' τ' H1 → va_S A H0 H1 locs1 → W p l e R s mi args below meth c H1 locs1 cells slots Q (F0 mi pc' lsj (st'.map (am_cv adr)))) : W p l e R s mi args below meth c H locs cells slots Q (F0 mi pc lsj (st.map (am_cv adr))) := by
  unfold am_putf at h
  split at h
  · rename_i x k st2
    split at h
    · rename_i ci j cj fds hfr hsh
      split at h
      · rename_i hc
        subst hc
        split at h
        · rename_i hf
          obtain ⟨rfl, rfl, rfl, rfl, rfl⟩ := am_nx_inj h
          exact am_put1 hx hb hts hown hK hW hS hfr hsh (Or.inl ⟨hf, rfl⟩) (vp_nar_int x) rfl hd (kk rfl)
        · rename_i hf
          split at h
          · rename_i hn
            obtain ⟨rfl, rfl, rfl, rfl, rfl⟩ := am_nx_inj h
            exact am_put1 hx hb hts hown hK hW hS hfr hsh (Or.inr ⟨hf, rfl⟩) (am_nb hn).1 (am_nb hn).2 hd (kk rfl)
          · cases h
        · cases h
      · cases h
    · cases h
  · rename_i x k st2
    split at h
    · rename_i ci j hfr
      split at h
      · rename_i hc
        obtain ⟨rfl, rfl, rfl⟩ := hc
        obtain ⟨rfl, rfl, rfl, rfl, rfl⟩ := am_nx_inj h
        exact am_putL hx hb hts hown hK hW hS hfr hd (kk rfl)
      · cases h
    · cases h
  · cases h
theorem am_nn_v {own i pc' : Nat} {ls' st' : List Value} {σ' : am_St} {τ' : Int64} : ¬ am_invv own i st = am_nx pc' ls' st' σ' τ' := by
  intro h
  unfold am_invv am_nx at h
  repeat' split at h
  all_goals cases h
theorem am_nn_s {own i pc' : Nat} {ls' st' : List Value} {σ' : am_St} {τ' : Int64} : ¬ am_invs own i st = am_nx pc' ls' st' σ' τ' := by
  intro h
  unfold am_invs am_nx at h
  repeat' split at h
  all_goals cases h
theorem am_nn_i {m pc' : Nat} {ls' st' : List Value} {σ' : am_St} {τ' : Int64} : ¬ am_iret m st = am_nx pc' ls' st' σ' τ' := by
  intro h
  unfold am_iret am_nx at h
  repeat' split at h
  all_goals cases h
theorem am_nn_l {m pc' : Nat} {ls' st' : List Value} {σ' : am_St} {τ' : Int64} : ¬ am_lret m st = am_nx pc' ls' st' σ' τ' := by
  intro h
  unfold am_lret am_nx at h
  repeat' split at h
  all_goals cases h
theorem am_nn_r {m pc' : Nat} {ls' st' : List Value} {σ' : am_St} {τ' : Int64} : ¬ am_vret m st = am_nx pc' ls' st' σ' τ' := by
  intro h
  unfold am_vret am_nx at h
  repeat' split at h
  all_goals cases h
theorem am_next {ins : Instr} {len pc' : Nat} {ls' st' : List Value} {σ' : am_St} {τ' : Int64} (C : am_Cx p s mi args meth c dC dI cI cZ m) (hR : 1 ≤ R.frames ∧ 64 ≤ R.locals ∧ cells ≤ R.cells ∧ slots ≤ R.slots) (hW : am_Wd dC dI adr cI cZ A σ τ H) (hS : va_S A H0 H locs) (hl : lv_has lsj (am_mxl m) (am_la adr ls)) (hd : decode (am_code m) pc = .ok (ins, len)) (h : am_op ins len m pc ls st σ τ = am_nx pc' ls' st' σ' τ')
    (kk : ∀ (H1 : Heap) (locs1 : List Loc) (lsj1 : Array Slot), am_Wd dC dI adr cI cZ A σ' τ' H1 → va_S A H0 H1 locs1 → lv_has lsj1 (am_mxl m) (am_la adr ls') → W p l e R s mi args below meth c H1 locs1 cells slots Q (F0 mi pc' lsj1 (st'.map (am_cv adr)))) : W p l e R s mi args below meth c H locs cells slots Q (F0 mi pc lsj (st.map (am_cv adr))) := by
  obtain ⟨hx, hb, hml, hown, hts, hr, hlocks, hK⟩ := C
  unfold am_op at h
  split at h
  case h_1 => obtain ⟨rfl, rfl, rfl, rfl, rfl⟩ := am_nx_inj h; exact lv_iconst hx hb hd rfl (kk H locs lsj hW hS hl)
  case h_2 => obtain ⟨rfl, rfl, rfl, rfl, rfl⟩ := am_nx_inj h; exact lv_bipush hx hb hd rfl (kk H locs lsj hW hS hl)
  case h_3 => obtain ⟨rfl, rfl, rfl, rfl, rfl⟩ := am_nx_inj h; exact lv_sipush hx hb hd rfl (kk H locs lsj hW hS hl)
  case h_4 => obtain ⟨rfl, rfl, rfl, rfl, rfl⟩ := am_nx_inj h; exact lv_lconst hx hb hd rfl (kk H locs lsj hW hS hl)
  case h_5 =>
    split at h
    · rename_i hk
      obtain ⟨rfl, rfl, rfl, rfl, rfl⟩ := am_nx_inj h
      exact lv_ldcw hx hb hown (hts _ (am_ki_ok hk)) hd (kk H locs lsj hW hS hl)
    · cases h
  case h_6 =>
    split at h
    · rename_i hk
      obtain ⟨rfl, rfl, rfl, rfl, rfl⟩ := am_nx_inj h
      exact lv_ldc2 hx hb hown (hts _ (am_kl_ok hk)) hd (kk H locs lsj hW hS hl)
    · cases h
  case h_7 => obtain ⟨x, g, rfl, rfl, rfl, rfl, rfl⟩ := am_n_ldi (cc := am_code m) hl h; exact lv_iload_n hx hb hd rfl g (kk H locs lsj hW hS hl)
  case h_8 => obtain ⟨x, g, rfl, rfl, rfl, rfl, rfl⟩ := am_n_ldi (cc := am_code m) hl h; exact lv_iload hx hb hd g (kk H locs lsj hW hS hl)
  case h_9 => obtain ⟨x, g, rfl, rfl, rfl, rfl, rfl⟩ := am_n_ldl (cc := am_code m) hl h; exact lv_lload_n hx hb hd rfl g (kk H locs lsj hW hS hl)
  case h_10 => obtain ⟨x, g, rfl, rfl, rfl, rfl, rfl⟩ := am_n_ldl (cc := am_code m) hl h; exact lv_lload hx hb hd g (kk H locs lsj hW hS hl)
  case h_11 => obtain ⟨x, g, rfl, rfl, rfl, rfl, rfl⟩ := am_n_lda (cc := am_code m) hl h; exact lv_aload_n hx hb hd rfl g (kk H locs lsj hW hS hl)
  case h_12 => obtain ⟨x, g, rfl, rfl, rfl, rfl, rfl⟩ := am_n_lda (cc := am_code m) hl h; exact lv_aload hx hb hd g (kk H locs lsj hW hS hl)
  case h_13 => obtain ⟨x, rfl, hi, rfl, rfl, rfl, rfl⟩ := am_n_sti h; exact lv_istore_n hx hb hd rfl hl hi rfl (fun ls1 h1 => kk H locs ls1 hW hS (am_la_set1 h1))
  case h_14 => obtain ⟨x, rfl, hi, rfl, rfl, rfl, rfl⟩ := am_n_sti h; exact lv_istore hx hb hd hl hi rfl (fun ls1 h1 => kk H locs ls1 hW hS (am_la_set1 h1))
  case h_15 => obtain ⟨x, rfl, hi, rfl, rfl, rfl, rfl⟩ := am_n_stl h; exact lv_lstore_n hx hb hd rfl hl hi rfl (fun ls1 h1 => kk H locs ls1 hW hS (am_la_set2 h1))
  case h_16 => obtain ⟨x, rfl, hi, rfl, rfl, rfl, rfl⟩ := am_n_stl h; exact lv_lstore hx hb hd hl hi rfl (fun ls1 h1 => kk H locs ls1 hW hS (am_la_set2 h1))
  case h_17 i n =>
    unfold am_iin at h
    split at h
    · rename_i x hg
      split at h
      · rename_i hi
        obtain ⟨rfl, rfl, rfl, rfl, rfl⟩ := am_nx_inj h
        obtain ⟨k, hk⟩ := List.getElem?_of_mem (am_la_mem.mpr ⟨.int x, (show ls[i]? = some (.int x) by
          rw [List.getD_eq_getElem?_getD] at hg
          cases hz : ls[i]? with
          | none => rw [hz] at hg; cases hg
          | some w => rw [hz] at hg; exact congrArg some hg), (fun q => by cases q), rfl⟩ : (i, Value.int x) ∈ am_la adr ls)
        exact lv_iinc hx hb hd hl hk rfl hi rfl (fun ls1 h1 => kk H locs ls1 hW hS (am_la_set1 h1))
      · cases h
    · cases h
  case h_18 => obtain ⟨x, y, st2, rfl, rfl, rfl, rfl, rfl, rfl⟩ := am_n_i2 h; exact lv_iadd hx hb hd (kk H locs lsj hW hS hl)
  case h_19 => obtain ⟨x, y, st2, rfl, rfl, rfl, rfl, rfl, rfl⟩ := am_n_i2 h; exact lv_isub hx hb hd (kk H locs lsj hW hS hl)
  case h_20 => obtain ⟨x, y, st2, rfl, rfl, rfl, rfl, rfl, rfl⟩ := am_n_i2 h; exact lv_imul hx hb hd (kk H locs lsj hW hS hl)
  case h_21 => obtain ⟨x, y, st2, rfl, rfl, rfl, rfl, rfl, rfl⟩ := am_n_i2 h; exact lv_iand hx hb hd (kk H locs lsj hW hS hl)
  case h_22 => obtain ⟨x, y, st2, rfl, rfl, rfl, rfl, rfl, rfl⟩ := am_n_i2 h; exact lv_ior hx hb hd (kk H locs lsj hW hS hl)
  case h_23 => obtain ⟨x, y, st2, rfl, rfl, rfl, rfl, rfl, rfl⟩ := am_n_i2 h; exact lv_ixor hx hb hd (kk H locs lsj hW hS hl)
  case h_24 => obtain ⟨x, y, st2, rfl, rfl, rfl, rfl, rfl, rfl⟩ := am_n_i2 h; exact lv_ishl hx hb hd (kk H locs lsj hW hS hl)
  case h_25 => obtain ⟨x, y, st2, rfl, rfl, rfl, rfl, rfl, rfl⟩ := am_n_i2 h; exact lv_ishr hx hb hd (kk H locs lsj hW hS hl)
  case h_26 => obtain ⟨x, y, st2, rfl, rfl, rfl, rfl, rfl, rfl⟩ := am_n_i2 h; exact lv_iushr hx hb hd rfl (kk H locs lsj hW hS hl)
  case h_27 => obtain ⟨x, y, st2, hy, rfl, rfl, rfl, rfl, rfl, rfl⟩ := am_n_d2 h; exact lv_idiv hx hb hd hy (kk H locs lsj hW hS hl)
  case h_28 => obtain ⟨x, y, st2, hy, rfl, rfl, rfl, rfl, rfl, rfl⟩ := am_n_d2 h; exact lv_irem hx hb hd hy (kk H locs lsj hW hS hl)
  case h_29 => obtain ⟨x, y, st2, rfl, rfl, rfl, rfl, rfl, rfl⟩ := am_n_l2 h; exact lv_ladd hx hb hd (kk H locs lsj hW hS hl)
  case h_30 => obtain ⟨x, y, st2, rfl, rfl, rfl, rfl, rfl, rfl⟩ := am_n_l2 h; exact lv_lmul hx hb hd (kk H locs lsj hW hS hl)
  case h_31 => obtain ⟨x, y, st2, rfl, rfl, rfl, rfl, rfl, rfl⟩ := am_n_l2 h; exact lv_land hx hb hd (kk H locs lsj hW hS hl)
  case h_32 => (split at h; · obtain ⟨rfl, rfl, rfl, rfl, rfl⟩ := am_nx_inj h; exact lv_lushr hx hb hd rfl (kk H locs lsj hW hS hl)); cases h
  case h_33 => (split at h; · obtain ⟨rfl, rfl, rfl, rfl, rfl⟩ := am_nx_inj h; exact W.lcmp hx hb hd (kk H locs lsj hW hS hl)); cases h
  case h_34 => (split at h; · obtain ⟨rfl, rfl, rfl, rfl, rfl⟩ := am_nx_inj h; exact lv_i2l hx hb hd rfl (kk H locs lsj hW hS hl)); cases h
  case h_35 => (split at h; · obtain ⟨rfl, rfl, rfl, rfl, rfl⟩ := am_nx_inj h; exact lv_l2i hx hb hd rfl (kk H locs lsj hW hS hl)); cases h
  case h_36 =>
    split at h
    · split at h
      · rename_i hv
        obtain ⟨rfl, rfl, rfl, rfl, rfl⟩ := am_nx_inj h
        exact lv_dup hx hb hd (by rw [am_cv_cat]; exact hv) (kk H locs lsj hW hS hl)
      · cases h
    · cases h
  case h_37 =>
    split at h
    · split at h
      · rename_i hv
        obtain ⟨rfl, rfl, rfl, rfl, rfl⟩ := am_nx_inj h
        exact lv_dup2_11 hx hb hd (by rw [am_cv_cat]; exact hv.1) (by rw [am_cv_cat]; exact hv.2) (kk H locs lsj hW hS hl)
      · cases h
    · cases h
  case h_38 => obtain ⟨ht, rfl, rfl, rfl, rfl⟩ := am_jmp_inj h; exact lv_goto hx hb hd ht (kk H locs lsj hW hS hl)
  case h_39 cd off =>
    split at h
    · split at h
      · rename_i h0
        obtain ⟨rfl, rfl, rfl, rfl, rfl⟩ := am_nx_inj h
        refine am_if hx hb cd hd (am_tg_ok h0) (fun hc => ?_) (fun hc => ?_)
        · have k2 := kk H locs lsj hW hS hl
          rw [if_pos hc] at k2
          exact k2
        · have k2 := kk H locs lsj hW hS hl
          rw [if_neg (by rw [hc]; decide)] at k2
          exact k2
      · cases h
    · cases h
  case h_40 cd off =>
    split at h
    · split at h
      · rename_i h0
        obtain ⟨rfl, rfl, rfl, rfl, rfl⟩ := am_nx_inj h
        refine am_icmp hx hb cd hd (am_tg_ok h0) (fun hc => ?_) (fun hc => ?_)
        · have k2 := kk H locs lsj hW hS hl
          rw [if_pos hc] at k2
          exact k2
        · have k2 := kk H locs lsj hW hS hl
          rw [if_neg (by rw [hc]; decide)] at k2
          exact k2
      · cases h
    · cases h
  case h_41 =>
    split at h
    · split at h
      · rename_i hc
        obtain ⟨ht, rfl, rfl, rfl, rfl⟩ := am_jmp_inj h
        exact lv_tableOut hx hb hd hc ht (kk H locs lsj hW hS hl)
      · rename_i hc
        split at h
        · rename_i ho
          obtain ⟨ht, rfl, rfl, rfl, rfl⟩ := am_jmp_inj h
          exact lv_tableIn hx hb hd (fun q => hc (Or.inl q)) (fun q => hc (Or.inr q)) ho ht (kk H locs lsj hW hS hl)
        · cases h
    · cases h
  case h_42 =>
    split at h
    · split at h
      · rename_i hc
        obtain ⟨ht, rfl, rfl, rfl, rfl⟩ := am_jmp_inj h
        exact lv_lookup hx hb hd hc rfl ht (kk H locs lsj hW hS hl)
      · cases h
    · cases h
  case h_43 => exact am_n_getf hx hb hts hown hK hW hd h (fun e1 e2 e3 => by subst e1; subst e2; subst e3; exact kk H locs lsj hW hS hl)
  case h_44 => exact am_n_putf hx hb hts hown hK hW hS hd h (fun e1 H1 locs1 g1 g2 => by subst e1; exact kk H1 locs1 lsj g1 g2 hl)
  case h_45 =>
    unfold am_ald at h
    split at h
    · split at h
      · rename_i z n hs
        split at h
        · rename_i hc
          obtain ⟨rfl, hc⟩ := hc
          obtain ⟨rfl, rfl, rfl, rfl, rfl⟩ := am_nx_inj h
          exact va_iald hx hb hK hW.1 _ 0 (am_arr hs) rfl hc hd (kk H locs lsj hW hS hl)
        · cases h
      · cases h
    · cases h
  case h_46 =>
    unfold am_ald at h
    split at h
    · split at h
      · rename_i z n hs
        split at h
        · rename_i hc
          obtain ⟨rfl, hc⟩ := hc
          obtain ⟨rfl, rfl, rfl, rfl, rfl⟩ := am_nx_inj h
          exact va_zald hx hb hK hW.1 _ 1 (am_arr hs) rfl hc hd (kk H locs lsj hW hS hl)
        · cases h
      · cases h
    · cases h
  case h_47 =>
    unfold am_ast at h
    split at h
    · split at h
      · rename_i z n hs
        split at h
        · rename_i hc
          obtain ⟨rfl, hc⟩ := hc
          obtain ⟨rfl, rfl, rfl, rfl, rfl⟩ := am_nx_inj h
          refine va_iast hx hb hK hW.1 hW.2 hS _ 0 (am_arr hs) rfl hc hd (fun H1 locs1 g1 g2 g3 => ?_)
          rw [am_arr_set hs] at g1 g2
          exact kk H1 locs1 lsj ⟨g1, g2⟩ g3 hl
        · cases h
      · cases h
    · cases h
  case h_48 =>
    unfold am_ast at h
    split at h
    · split at h
      · rename_i z n hs
        split at h
        · rename_i hc
          obtain ⟨rfl, hc⟩ := hc
          obtain ⟨rfl, rfl, rfl, rfl, rfl⟩ := am_nx_inj h
          refine va_zast hx hb hK hW.1 hW.2 hS _ 1 (am_arr hs) rfl hc hd (fun H1 locs1 g1 g2 g3 => ?_)
          rw [am_arr_set hs] at g1 g2
          exact kk H1 locs1 lsj ⟨g1, g2⟩ g3 hl
        · cases h
      · cases h
    · cases h
  case h_49 => exact absurd h am_nn_v
  case h_50 =>
    split at h
    · rename_i b hm
      unfold am_mth at h
      split at h
      · split at h
        · rename_i hc
          obtain ⟨rfl, rfl, rfl, rfl, rfl⟩ := am_nx_inj h
          have hlk := am_mm_ok hm
          have hc2 := am_cats_cv adr
          cases b
          · exact va_mmin hx hb (hml.trans hl.1.symm) hown (hts _ hlk) (hts _ am_mx4) (hts _ am_mx5) (hts _ am_mx2) hR.1 (by rw [am_cats_cv]; omega) hR.2.2.1 hR.2.2.2 hd (kk H locs lsj hW hS hl)
          · exact va_mmax hx hb (hml.trans hl.1.symm) hown (hts _ hlk) (hts _ am_mx3) (hts _ am_mx5) (hts _ am_mx1) hR.1 (by rw [am_cats_cv]; omega) hR.2.2.1 hR.2.2.2 hd (kk H locs lsj hW hS hl)
        · cases h
      · cases h
    · exact absurd h am_nn_s
  case h_51 => exact absurd h am_nn_i
  case h_52 => exact absurd h am_nn_l
  case h_53 => exact absurd h am_nn_r
  all_goals cases h
end AMX
