/-! rules of the abstract machine, an instruction each, as equations -/
section AMR
variable {d m pc : Nat} {ls st : List Value} {σ : am_St} {τ : Int64}
theorem am_run_none (h : am_step m pc ls st σ τ = none) : am_run d m pc ls st σ τ = none := by
  cases hr : am_run d m pc ls st σ τ with
  | none => rfl
  | some r =>
    obtain ⟨n, hn⟩ := am_run_iff.mp hr
    cases n with
    | zero => cases hn
    | succ n => rw [am_ev, h] at hn; cases hn
theorem am_step_eq {ins : Instr} {len : Nat} (hd : decode (am_code m) pc = .ok (ins, len)) : am_step m pc ls st σ τ = am_op ins len m pc ls st σ τ := by
  unfold am_step
  rw [hd]
/-- a long that is overwritten in its second half is gone -/
def am_nl (v : Value) : Value := if v.category = 2 then .null else v
theorem am_nl_i (x : Int32) : am_nl (.int x) = .int x := rfl
theorem am_nl_r (x : Nat) : am_nl (.ref x) = .ref x := rfl
theorem am_nl_n : am_nl .null = .null := rfl
theorem am_nl_l (x : Int64) : am_nl (.long x) = .null := rfl
theorem rr_next {ins : Instr} {len pc' : Nat} {ls' st' : List Value} {σ' : am_St} {τ' : Int64} (hd : decode (am_code m) pc = .ok (ins, len)) (h : am_op ins len m pc ls st σ τ = am_nx pc' ls' st' σ' τ') : am_run d m pc ls st σ τ = am_run d m pc' ls' st' σ' τ' := am_run_next ((am_step_eq hd).trans h)
theorem rr_iconst {n : Int} (v : Int32) (hd : decode (am_code m) pc = .ok (.iconst n, 1)) (hv : Int32.ofInt n = v) : am_run d m pc ls st σ τ = am_run d m (pc + 1) ls (.int v :: st) σ τ := by subst hv; exact rr_next hd rfl
theorem rr_bipush {n : Int} (v : Int32) (hd : decode (am_code m) pc = .ok (.bipush n, 2)) (hv : (Int8.ofInt n).toInt32 = v) : am_run d m pc ls st σ τ = am_run d m (pc + 2) ls (.int v :: st) σ τ := by subst hv; exact rr_next hd rfl
theorem rr_sipush {n : Int} (v : Int32) (hd : decode (am_code m) pc = .ok (.sipush n, 3)) (hv : (Int16.ofInt n).toInt32 = v) : am_run d m pc ls st σ τ = am_run d m (pc + 3) ls (.int v :: st) σ τ := by subst hv; exact rr_next hd rfl
theorem rr_lconst {n : Fin 2} (v : Int64) (hd : decode (am_code m) pc = .ok (.lconst n, 1)) (hv : Int64.ofNat (n : Nat) = v) : am_run d m pc ls st σ τ = am_run d m (pc + 1) ls (.long v :: st) σ τ := by subst hv; exact rr_next hd rfl
theorem rr_ldcw {i : Nat} (v : Int32) (hd : decode (am_code m) pc = .ok (.ldc_w i, 3)) (hv : am_ki (am_cl m) i = some v) : am_run d m pc ls st σ τ = am_run d m (pc + 3) ls (.int v :: st) σ τ := rr_next hd (by show (match am_ki (am_cl m) i with | some v => am_nx (pc + 3) ls (.int v :: st) σ τ | none => none) = _; rw [hv])
theorem rr_ldc2 {i : Nat} (v : Int64) (hd : decode (am_code m) pc = .ok (.ldc2_w i, 3)) (hv : am_kl (am_cl m) i = some v) : am_run d m pc ls st σ τ = am_run d m (pc + 3) ls (.long v :: st) σ τ := rr_next hd (by show (match am_kl (am_cl m) i with | some v => am_nx (pc + 3) ls (.long v :: st) σ τ | none => none) = _; rw [hv])
theorem rr_iload_n {k : Fin 4} {x : Int32} (hd : decode (am_code m) pc = .ok (.iload_n k, 1)) (hv : ls.getD k .null = .int x) : am_run d m pc ls st σ τ = am_run d m (pc + 1) ls (.int x :: st) σ τ := rr_next hd (by show am_ldi _ (ls.getD k .null) _ _ _ _ = _; rw [hv]; rfl)
theorem rr_iload {k : Nat} {x : Int32} (hd : decode (am_code m) pc = .ok (.iload k, 2)) (hv : ls.getD k .null = .int x) : am_run d m pc ls st σ τ = am_run d m (pc + 2) ls (.int x :: st) σ τ := rr_next hd (by show am_ldi _ (ls.getD k .null) _ _ _ _ = _; rw [hv]; rfl)
theorem rr_lload_n {k : Fin 4} {x : Int64} (hd : decode (am_code m) pc = .ok (.lload_n k, 1)) (hv : ls.getD k .null = .long x) : am_run d m pc ls st σ τ = am_run d m (pc + 1) ls (.long x :: st) σ τ := rr_next hd (by show am_ldl _ (ls.getD k .null) _ _ _ _ = _; rw [hv]; rfl)
theorem rr_lload {k : Nat} {x : Int64} (hd : decode (am_code m) pc = .ok (.lload k, 2)) (hv : ls.getD k .null = .long x) : am_run d m pc ls st σ τ = am_run d m (pc + 2) ls (.long x :: st) σ τ := rr_next hd (by show am_ldl _ (ls.getD k .null) _ _ _ _ = _; rw [hv]; rfl)
theorem rr_aload_n {k : Fin 4} {x : Nat} (hd : decode (am_code m) pc = .ok (.aload_n k, 1)) (hv : ls.getD k .null = .ref x) : am_run d m pc ls st σ τ = am_run d m (pc + 1) ls (.ref x :: st) σ τ := rr_next hd (by show am_lda _ (ls.getD k .null) _ _ _ _ = _; rw [hv]; rfl)
theorem rr_aload {k : Nat} {x : Nat} (hd : decode (am_code m) pc = .ok (.aload k, 2)) (hv : ls.getD k .null = .ref x) : am_run d m pc ls st σ τ = am_run d m (pc + 2) ls (.ref x :: st) σ τ := rr_next hd (by show am_lda _ (ls.getD k .null) _ _ _ _ = _; rw [hv]; rfl)
theorem rr_istore_n {k : Fin 4} {x : Int32} (ls' : List Value) (hd : decode (am_code m) pc = .ok (.istore_n k, 1)) (hk : (k : Nat) < am_mxl m) (hl : am_set1 ls k (.int x) = ls') : am_run d m pc ls (.int x :: st) σ τ = am_run d m (pc + 1) ls' st σ τ := rr_next hd (by show (if (k : Nat) < am_mxl m then _ else none) = _; rw [if_pos hk, hl])
theorem rr_istore {k : Nat} {x : Int32} (ls' : List Value) (hd : decode (am_code m) pc = .ok (.istore k, 2)) (hk : (k : Nat) < am_mxl m) (hl : am_set1 ls k (.int x) = ls') : am_run d m pc ls (.int x :: st) σ τ = am_run d m (pc + 2) ls' st σ τ := rr_next hd (by show (if (k : Nat) < am_mxl m then _ else none) = _; rw [if_pos hk, hl])
theorem rr_lstore_n {k : Fin 4} {x : Int64} (ls' : List Value) (hd : decode (am_code m) pc = .ok (.lstore_n k, 1)) (hk : (k : Nat) + 1 < am_mxl m) (hl : am_set2 ls k (.long x) = ls') : am_run d m pc ls (.long x :: st) σ τ = am_run d m (pc + 1) ls' st σ τ := rr_next hd (by show (if (k : Nat) + 1 < am_mxl m then _ else none) = _; rw [if_pos hk, hl])
theorem rr_lstore {k : Nat} {x : Int64} (ls' : List Value) (hd : decode (am_code m) pc = .ok (.lstore k, 2)) (hk : (k : Nat) + 1 < am_mxl m) (hl : am_set2 ls k (.long x) = ls') : am_run d m pc ls (.long x :: st) σ τ = am_run d m (pc + 2) ls' st σ τ := rr_next hd (by show (if (k : Nat) + 1 < am_mxl m then _ else none) = _; rw [if_pos hk, hl])
theorem rr_iinc {k : Nat} {n : Int} {x : Int32} (w : Int32) (ls' : List Value) (hd : decode (am_code m) pc = .ok (.iinc k n, 3)) (hv : ls.getD k .null = .int x) (hk : k < am_mxl m) (hw : Int32.ofInt n = w) (hl : am_set1 ls k (.int (x + w)) = ls') : am_run d m pc ls st σ τ = am_run d m (pc + 3) ls' st σ τ := by
  subst hw
  exact rr_next hd (by show am_iin _ _ k n (ls.getD k .null) _ _ _ _ = _; rw [hv]; show (if k < am_mxl m then _ else none) = _; rw [if_pos hk, hl])
theorem rr_iadd {x y : Int32} (hd : decode (am_code m) pc = .ok (.iadd, 1)) : am_run d m pc ls (.int y :: .int x :: st) σ τ = am_run d m (pc + 1) ls (.int (x + y) :: st) σ τ := rr_next hd rfl
theorem rr_isub {x y : Int32} (hd : decode (am_code m) pc = .ok (.isub, 1)) : am_run d m pc ls (.int y :: .int x :: st) σ τ = am_run d m (pc + 1) ls (.int (x - y) :: st) σ τ := rr_next hd rfl
theorem rr_imul {x y : Int32} (hd : decode (am_code m) pc = .ok (.imul, 1)) : am_run d m pc ls (.int y :: .int x :: st) σ τ = am_run d m (pc + 1) ls (.int (x * y) :: st) σ τ := rr_next hd rfl
theorem rr_iand {x y : Int32} (hd : decode (am_code m) pc = .ok (.iand, 1)) : am_run d m pc ls (.int y :: .int x :: st) σ τ = am_run d m (pc + 1) ls (.int (x &&& y) :: st) σ τ := rr_next hd rfl
theorem rr_ior {x y : Int32} (hd : decode (am_code m) pc = .ok (.ior, 1)) : am_run d m pc ls (.int y :: .int x :: st) σ τ = am_run d m (pc + 1) ls (.int (x ||| y) :: st) σ τ := rr_next hd rfl
theorem rr_ixor {x y : Int32} (hd : decode (am_code m) pc = .ok (.ixor, 1)) : am_run d m pc ls (.int y :: .int x :: st) σ τ = am_run d m (pc + 1) ls (.int (x ^^^ y) :: st) σ τ := rr_next hd rfl
theorem rr_ishl {x y : Int32} (hd : decode (am_code m) pc = .ok (.ishl, 1)) : am_run d m pc ls (.int y :: .int x :: st) σ τ = am_run d m (pc + 1) ls (.int (x <<< (y &&& 31)) :: st) σ τ := rr_next hd rfl
theorem rr_ishr {x y : Int32} (hd : decode (am_code m) pc = .ok (.ishr, 1)) : am_run d m pc ls (.int y :: .int x :: st) σ τ = am_run d m (pc + 1) ls (.int (x >>> (y &&& 31)) :: st) σ τ := rr_next hd rfl
theorem rr_iushr {x y : Int32} (hd : decode (am_code m) pc = .ok (.iushr, 1)) : am_run d m pc ls (.int y :: .int x :: st) σ τ = am_run d m (pc + 1) ls (.int (x.toUInt32 >>> (y.toUInt32 &&& Int32.toUInt32 31)).toInt32 :: st) σ τ := rr_next hd rfl
theorem rr_idiv {x y : Int32} (hd : decode (am_code m) pc = .ok (.idiv, 1)) : am_run d m pc ls (.int y :: .int x :: st) σ τ = if y = 0 then none else am_run d m (pc + 1) ls (.int (x / y) :: st) σ τ := by
  split
  · rename_i h; exact am_run_none ((am_step_eq hd).trans (by show (if y = 0 then none else _) = _; rw [if_pos h]))
  · rename_i h; exact rr_next hd (by show (if y = 0 then none else _) = _; rw [if_neg h])
theorem rr_irem {x y : Int32} (hd : decode (am_code m) pc = .ok (.irem, 1)) : am_run d m pc ls (.int y :: .int x :: st) σ τ = if y = 0 then none else am_run d m (pc + 1) ls (.int (x - x / y * y) :: st) σ τ := by
  split
  · rename_i h; exact am_run_none ((am_step_eq hd).trans (by show (if y = 0 then none else _) = _; rw [if_pos h]))
  · rename_i h; exact rr_next hd (by show (if y = 0 then none else _) = _; rw [if_neg h])
theorem rr_ladd {x y : Int64} (hd : decode (am_code m) pc = .ok (.ladd, 1)) : am_run d m pc ls (.long y :: .long x :: st) σ τ = am_run d m (pc + 1) ls (.long (x + y) :: st) σ τ := rr_next hd rfl
theorem rr_lmul {x y : Int64} (hd : decode (am_code m) pc = .ok (.lmul, 1)) : am_run d m pc ls (.long y :: .long x :: st) σ τ = am_run d m (pc + 1) ls (.long (x * y) :: st) σ τ := rr_next hd rfl
theorem rr_land {x y : Int64} (hd : decode (am_code m) pc = .ok (.land, 1)) : am_run d m pc ls (.long y :: .long x :: st) σ τ = am_run d m (pc + 1) ls (.long (x &&& y) :: st) σ τ := rr_next hd rfl
theorem rr_lushr {x : Int64} {y : Int32} (hd : decode (am_code m) pc = .ok (.lushr, 1)) : am_run d m pc ls (.int y :: .long x :: st) σ τ = am_run d m (pc + 1) ls (.long (x.toUInt64 >>> (y.toInt64.toUInt64 &&& Int64.toUInt64 63)).toInt64 :: st) σ τ := rr_next hd rfl
theorem rr_lcmp {x y : Int64} (hd : decode (am_code m) pc = .ok (.lcmp, 1)) : am_run d m pc ls (.long y :: .long x :: st) σ τ = am_run d m (pc + 1) ls (.int (lg_cmp x y) :: st) σ τ := rr_next hd rfl
theorem rr_i2l {x : Int32} (hd : decode (am_code m) pc = .ok (.i2l, 1)) : am_run d m pc ls (.int x :: st) σ τ = am_run d m (pc + 1) ls (.long x.toInt64 :: st) σ τ := rr_next hd rfl
theorem rr_l2i {x : Int64} (hd : decode (am_code m) pc = .ok (.l2i, 1)) : am_run d m pc ls (.long x :: st) σ τ = am_run d m (pc + 1) ls (.int x.toInt32 :: st) σ τ := rr_next hd rfl
theorem rr_dup_i {x : Int32} (hd : decode (am_code m) pc = .ok (.dup, 1)) : am_run d m pc ls (.int x :: st) σ τ = am_run d m (pc + 1) ls (.int x :: .int x :: st) σ τ := rr_next hd rfl
theorem rr_dup_r {x : Nat} (hd : decode (am_code m) pc = .ok (.dup, 1)) : am_run d m pc ls (.ref x :: st) σ τ = am_run d m (pc + 1) ls (.ref x :: .ref x :: st) σ τ := rr_next hd rfl
theorem rr_dup2 {x : Int32} {y : Nat} (hd : decode (am_code m) pc = .ok (.dup2, 1)) : am_run d m pc ls (.int x :: .ref y :: st) σ τ = am_run d m (pc + 1) ls (.int x :: .ref y :: .int x :: .ref y :: st) σ τ := rr_next hd rfl
theorem rr_goto {off : Int} (tgt : Nat) (hd : decode (am_code m) pc = .ok (.goto off, 3)) (ht : (pc : Int) + off = (tgt : Int)) : am_run d m pc ls st σ τ = am_run d m tgt ls st σ τ := rr_next hd (by show (if 0 ≤ (pc : Int) + off then am_nx (am_tg pc off) ls st σ τ else none) = _; rw [if_pos (by omega)]; unfold am_tg; rw [ht]; rfl)
theorem rr_if {cd : ClassFile.Cond} {off : Int} {x : Int32} (tgt : Nat) (hd : decode (am_code m) pc = .ok (.ifCond cd off, 3)) (ht : (pc : Int) + off = (tgt : Int)) : am_run d m pc ls (.int x :: st) σ τ = if am_cond cd x 0 = true then am_run d m tgt ls st σ τ else am_run d m (pc + 3) ls st σ τ := by
  rw [rr_next (pc' := if am_cond cd x 0 = true then tgt else pc + 3) hd (by show (if 0 ≤ (pc : Int) + off then _ else none) = _; rw [if_pos (by omega)]; unfold am_tg; rw [ht]; rfl)]
  split <;> rfl
theorem rr_icmp {cd : ClassFile.Cond} {off : Int} {x y : Int32} (tgt : Nat) (hd : decode (am_code m) pc = .ok (.if_icmp cd off, 3)) (ht : (pc : Int) + off = (tgt : Int)) : am_run d m pc ls (.int y :: .int x :: st) σ τ = if am_cond cd x y = true then am_run d m tgt ls st σ τ else am_run d m (pc + 3) ls st σ τ := by
  rw [rr_next (pc' := if am_cond cd x y = true then tgt else pc + 3) hd (by show (if 0 ≤ (pc : Int) + off then _ else none) = _; rw [if_pos (by omega)]; unfold am_tg; rw [ht]; rfl)]
  split <;> rfl
theorem am_sel {α : Type} {P : Prop} [Decidable P] {a b : α} : (if decide P = true then a else b) = if P then a else b := by simp
theorem am_seln {α : Type} {P : Prop} [Decidable P] {a b : α} : (if decide (¬ P) = true then a else b) = if P then b else a := by
  by_cases h : P <;> simp [h]
/-- where a switch goes -/
def am_sw (x : Int32) (lo : Int) (ts : List Nat) (dt : Nat) : Nat := match ts with
  | [] => dt
  | t :: ts => if x.toInt = lo then t else am_sw x (lo + 1) ts dt
theorem am_sw_out {x : Int32} {dt : Nat} : ∀ (ts : List Nat) (lo : Int), (x.toInt < lo ∨ lo + ts.length ≤ x.toInt) → am_sw x lo ts dt = dt := by
  intro ts
  induction ts with
  | nil => intro lo _; rfl
  | cons t ts ih =>
    intro lo h
    unfold am_sw
    rw [List.length_cons] at h
    rw [if_neg (by omega)]
    exact ih (lo + 1) (by omega)
theorem am_sw_in {x : Int32} {dt t : Nat} : ∀ (ts : List Nat) (lo : Int), ¬ x.toInt < lo → ts[(x.toInt - lo).toNat]? = some t → am_sw x lo ts dt = t := by
  intro ts
  induction ts with
  | nil => intro lo _ h; cases h
  | cons t0 ts ih =>
    intro lo h hs
    unfold am_sw
    by_cases he : x.toInt = lo
    · rw [if_pos he]
      rw [he, Int.sub_self] at hs
      exact Option.some.inj hs
    · rw [if_neg he]
      apply ih (lo + 1) (by omega)
      rw [show (x.toInt - lo).toNat = (x.toInt - (lo + 1)).toNat + 1 by omega] at hs
      exact hs
theorem rr_tsw {dflt lo hi : Int} {offs : Array Int} {len : Nat} {x : Int32} (ts : List Nat) (dt : Nat) (hd : decode (am_code m) pc = .ok (.tableswitch dflt lo hi offs, len)) (hdt : (pc : Int) + dflt = (dt : Int)) (hts : offs.toList.map (fun o => (pc : Int) + o) = ts.map (fun t : Nat => (t : Int))) (hhi : hi + 1 = lo + offs.size) : am_run d m pc ls (.int x :: st) σ τ = am_run d m (am_sw x lo ts dt) ls st σ τ := by
  have hlen : offs.size = ts.length := by
    have := congrArg List.length hts
    simpa using this
  refine rr_next hd ?_
  show (if x.toInt < lo ∨ hi < x.toInt then am_jmp pc dflt ls st σ τ else (match offs[(x.toInt - lo).toNat]? with | some off => am_jmp pc off ls st σ τ | none => none)) = _
  have jmp : ∀ (off : Int) (t : Nat), (pc : Int) + off = (t : Int) → am_jmp pc off ls st σ τ = am_nx t ls st σ τ := by
    intro off t h
    unfold am_jmp am_tg
    rw [if_pos (by omega), h]
    rfl
  split
  · rename_i h
    rw [jmp _ _ hdt, am_sw_out ts lo (by omega)]
  · rename_i h
    have hk : (x.toInt - lo).toNat < offs.size := by omega
    rw [Array.getElem?_eq_getElem hk]
    dsimp only
    have h1 : (offs.toList.map (fun o => (pc : Int) + o))[(x.toInt - lo).toNat]? = some ((pc : Int) + offs[(x.toInt - lo).toNat]) := by simp [hk]
    rw [hts, List.getElem?_map] at h1
    cases ht : ts[(x.toInt - lo).toNat]? with
    | none => rw [ht] at h1; cases h1
    | some t =>
      rw [ht] at h1
      rw [jmp _ t (Option.some.inj h1).symm, am_sw_in ts lo (by omega) ht]
def am_lsw (x : Int32) (ts : List (Int × Nat)) (dt : Nat) : Nat := match ts with
  | [] => dt
  | t :: ts => if x.toInt = t.1 then t.2 else am_lsw x ts dt
theorem am_lsw_ok {x : Int32} {dflt : Int} {dt : Nat} (hdt : (pc : Int) + dflt = (dt : Int)) : ∀ (ps : List (Int × Int)) (ts : List (Int × Nat)), ps.map (fun o => (o.1, (pc : Int) + o.2)) = ts.map (fun t => (t.1, (t.2 : Int))) → (pc : Int) + Op.lookupswitch.offset ps dflt x.toInt = (am_lsw x ts dt : Int) := by
  intro ps
  induction ps with
  | nil =>
    intro ts h
    cases ts with
    | nil => exact hdt
    | cons t ts => cases h
  | cons q ps ih =>
    intro ts h
    cases ts with
    | nil => cases h
    | cons t ts =>
      simp only [List.map_cons, List.cons.injEq, Prod.mk.injEq] at h
      obtain ⟨a, o⟩ := q
      rw [Op.lookupswitch.offset_cons]
      unfold am_lsw
      dsimp only at h
      by_cases hx : a = x.toInt
      · rw [if_pos hx, if_pos (by rw [← h.1.1]; exact hx.symm)]
        exact h.1.2
      · rw [if_neg hx, if_neg (by rw [← h.1.1]; exact fun q => hx q.symm)]
        exact ih ts h.2
theorem rr_lsw {dflt : Int} {ps : Array (Int × Int)} {len : Nat} {x : Int32} (ts : List (Int × Nat)) (dt : Nat) (hd : decode (am_code m) pc = .ok (.lookupswitch dflt ps, len)) (hdt : (pc : Int) + dflt = (dt : Int)) (hts : ps.toList.map (fun o => (o.1, (pc : Int) + o.2)) = ts.map (fun t => (t.1, (t.2 : Int)))) (hs : (ps.toList.zip (ps.toList.drop 1)).all (fun (a, next) => a.1 < next.1) = true) : am_run d m pc ls (.int x :: st) σ τ = am_run d m (am_lsw x ts dt) ls st σ τ := by
  refine rr_next hd ?_
  show (if (ps.toList.zip (ps.toList.drop 1)).all (fun (a, next) => a.1 < next.1) = true then am_jmp pc (Op.lookupswitch.offset ps.toList dflt x.toInt) ls st σ τ else none) = _
  rw [if_pos hs]
  have h := am_lsw_ok (x := x) hdt ps.toList ts hts
  unfold am_jmp am_tg
  rw [if_pos (by omega), h]
  rfl
/-! fields, arrays -/
def am_gf (k ci j : Nat) (σ : am_St) (τ : Int64) (f : Value → Option am_Rs) : Option am_Rs := match am_sh k with
  | some (.inr (cj, fds)) => if ci = cj then (match fds[j]? with
    | some x => f (am_fv0 σ τ k j x)
    | none => none) else none
  | _ => none
theorem rr_getf {i k ci j : Nat} (hd : decode (am_code m) pc = .ok (.getfield i, 3)) (hf : am_fr (am_cl m) i = some (ci, j)) : am_run d m pc ls (.ref k :: st) σ τ = am_gf k ci j σ τ (fun v => am_run d m (pc + 3) ls (v :: st) σ τ) := by
  have e : am_op (.getfield i) 3 m pc ls (.ref k :: st) σ τ = (match am_fr (am_cl m) i, am_sh k with
    | some (ci, j), some (.inr (cj, fds)) => if ci = cj then (match fds[j]? with
      | some f => am_nx (pc + 3) ls (am_fv0 σ τ k j f :: st) σ τ
      | none => none) else none
    | _, _ => none) := rfl
  rw [hf] at e
  unfold am_gf
  split
  · rename_i cj fds hs
    rw [hs] at e
    dsimp only at e
    split
    · rename_i hc
      rw [if_pos hc] at e
      split
      · rename_i x hx
        rw [hx] at e
        exact rr_next hd e
      · rename_i hx
        rw [hx] at e
        exact am_run_none ((am_step_eq hd).trans e)
    · rename_i hc
      rw [if_neg hc] at e
      exact am_run_none ((am_step_eq hd).trans e)
  · rename_i hs
    refine am_run_none ((am_step_eq hd).trans (e.trans ?_))
    split
    · rename_i h2; exact absurd h2 (hs _ _)
    · rfl
def am_pf (k ci j : Nat) (x : Int32) (σ : am_St) (f : am_St → Option am_Rs) : Option am_Rs := match am_sh k with
  | some (.inr (cj, fds)) => if ci = cj then (match fds[j]? with
    | some 0 => f (am_up σ k j x)
    | some 2 => if x = 0 ∨ x = 1 then f (am_up σ k j x) else none
    | _ => none) else none
  | _ => none
theorem rr_putf {i k ci j : Nat} {x : Int32} (hd : decode (am_code m) pc = .ok (.putfield i, 3)) (hf : am_fr (am_cl m) i = some (ci, j)) : am_run d m pc ls (.int x :: .ref k :: st) σ τ = am_pf k ci j x σ (fun σ' => am_run d m (pc + 3) ls st σ' τ) := by
  have e : am_op (.putfield i) 3 m pc ls (.int x :: .ref k :: st) σ τ = (match am_fr (am_cl m) i, am_sh k with
    | some (ci, j), some (.inr (cj, fds)) => if ci = cj then (match fds[j]? with
      | some 0 => am_nx (pc + 3) ls st (am_up σ k j x) τ
      | some 2 => if x = 0 ∨ x = 1 then am_nx (pc + 3) ls st (am_up σ k j x) τ else none
      | _ => none) else none
    | _, _ => none) := rfl
  rw [hf] at e
  unfold am_pf
  split
  · rename_i cj fds hs
    rw [hs] at e
    dsimp only at e
    split
    · rename_i hc
      rw [if_pos hc] at e
      split
      · rename_i hx
        rw [hx] at e
        exact rr_next hd e
      · rename_i hx
        rw [hx] at e
        (try dsimp only at e)
        split
        · rename_i hb
          rw [if_pos hb] at e
          exact rr_next hd e
        · rename_i hb
          rw [if_neg hb] at e
          exact am_run_none ((am_step_eq hd).trans e)
      · rename_i h0 h2
        refine am_run_none ((am_step_eq hd).trans (e.trans ?_))
        split
        · rename_i hx; exact absurd hx h0
        · rename_i hx; exact absurd hx h2
        · rfl
    · rename_i hc
      rw [if_neg hc] at e
      exact am_run_none ((am_step_eq hd).trans e)
  · rename_i hs
    refine am_run_none ((am_step_eq hd).trans (e.trans ?_))
    split
    · rename_i h2; exact absurd h2 (hs _ _)
    · rfl
theorem rr_putl {i : Nat} {x : Int64} (hd : decode (am_code m) pc = .ok (.putfield i, 3)) (hf : am_fr (am_cl m) i = some (10, 35)) : am_run d m pc ls (.long x :: .ref 42 :: st) σ τ = am_run d m (pc + 3) ls st σ x := by
  refine rr_next hd ?_
  show (match am_fr (am_cl m) i with
    | some (ci, j) => if 42 = 42 ∧ ci = 10 ∧ j = 35 then am_nx (pc + 3) ls st σ x else none
    | none => none) = _
  rw [hf]
  rfl
def am_ix (i : Int32) (n : Nat) : Prop := ¬ (i < 0 ∨ n ≤ i.toNatClampNeg)
theorem am_ix_n {j n : Nat} (hj : j < 2 ^ 31) : am_ix (nI j) n = (j < n) := by
  unfold am_ix
  apply propext
  rw [nI_clamp hj]
  constructor
  · intro h; rcases Nat.lt_or_ge j n with q | q
    · exact q
    · exact absurd (Or.inr q) h
  · intro h q
    rcases q with q | q
    · exact nI_pos hj q
    · omega
def am_ai (z : Bool) (k : Nat) (i : Int32) (f : Nat → Option am_Rs) : Option am_Rs := match am_sh k with
  | some (.inl (z', n)) => if z' = z ∧ ¬ (i < 0 ∨ n ≤ i.toNatClampNeg) then f i.toNatClampNeg else none
  | _ => none
theorem rr_ald {z : Bool} {ins : Instr} {i : Int32} {k : Nat} (hd : decode (am_code m) pc = .ok (ins, 1)) (hz : ∀ (st : List Value), am_op ins 1 m pc ls st σ τ = am_ald z pc ls st σ τ) : am_run d m pc ls (.int i :: .ref k :: st) σ τ = am_ai z k i (fun j => am_run d m (pc + 1) ls (.int (σ k j) :: st) σ τ) := by
  have e : am_op ins 1 m pc ls (.int i :: .ref k :: st) σ τ = (match am_sh k with
    | some (.inl (z', n)) => if z' = z ∧ ¬ (i < 0 ∨ n ≤ i.toNatClampNeg) then am_nx (pc + 1) ls (.int (σ k i.toNatClampNeg) :: st) σ τ else none
    | _ => none) := (hz _).trans rfl
  unfold am_ai
  split
  · rename_i z' n hs
    rw [hs] at e
    dsimp only at e
    split
    · rename_i hc; rw [if_pos hc] at e; exact rr_next hd e
    · rename_i hc; rw [if_neg hc] at e; exact am_run_none ((am_step_eq hd).trans e)
  · rename_i hs
    refine am_run_none ((am_step_eq hd).trans (e.trans ?_))
    split
    · rename_i h2; exact absurd h2 (hs _ _)
    · rfl
theorem rr_iald {i : Int32} {k : Nat} (hd : decode (am_code m) pc = .ok (.iaload, 1)) : am_run d m pc ls (.int i :: .ref k :: st) σ τ = am_ai false k i (fun j => am_run d m (pc + 1) ls (.int (σ k j) :: st) σ τ) := rr_ald hd (fun _ => rfl)
theorem rr_bald {i : Int32} {k : Nat} (hd : decode (am_code m) pc = .ok (.baload, 1)) : am_run d m pc ls (.int i :: .ref k :: st) σ τ = am_ai true k i (fun j => am_run d m (pc + 1) ls (.int (σ k j) :: st) σ τ) := rr_ald hd (fun _ => rfl)
theorem rr_ast {z : Bool} {ins : Instr} {i x : Int32} {k : Nat} (hd : decode (am_code m) pc = .ok (ins, 1)) (hz : ∀ (st : List Value), am_op ins 1 m pc ls st σ τ = am_ast z pc ls st σ τ) : am_run d m pc ls (.int x :: .int i :: .ref k :: st) σ τ = am_ai z k i (fun j => am_run d m (pc + 1) ls st (am_up σ k j (if z = true then vp_nar .boolean x else x)) τ) := by
  have e : am_op ins 1 m pc ls (.int x :: .int i :: .ref k :: st) σ τ = (match am_sh k with
    | some (.inl (z', n)) => if z' = z ∧ ¬ (i < 0 ∨ n ≤ i.toNatClampNeg) then am_nx (pc + 1) ls st (am_up σ k i.toNatClampNeg (if z = true then vp_nar .boolean x else x)) τ else none
    | _ => none) := (hz _).trans rfl
  unfold am_ai
  split
  · rename_i z' n hs
    rw [hs] at e
    dsimp only at e
    split
    · rename_i hc; rw [if_pos hc] at e; exact rr_next hd e
    · rename_i hc; rw [if_neg hc] at e; exact am_run_none ((am_step_eq hd).trans e)
  · rename_i hs
    refine am_run_none ((am_step_eq hd).trans (e.trans ?_))
    split
    · rename_i h2; exact absurd h2 (hs _ _)
    · rfl
theorem rr_iast {i x : Int32} {k : Nat} (hd : decode (am_code m) pc = .ok (.iastore, 1)) : am_run d m pc ls (.int x :: .int i :: .ref k :: st) σ τ = am_ai false k i (fun j => am_run d m (pc + 1) ls st (am_up σ k j x) τ) := rr_ast hd (fun _ => rfl)
theorem rr_bast {i x : Int32} {k : Nat} (hd : decode (am_code m) pc = .ok (.bastore, 1)) : am_run d m pc ls (.int x :: .int i :: .ref k :: st) σ τ = am_ai true k i (fun j => am_run d m (pc + 1) ls st (am_up σ k j (vp_nar .boolean x)) τ) := rr_ast hd (fun _ => rfl)
/-! calls, returns -/
def am_kc (k : Nat) : Nat := match am_sh k with
  | some (.inr (ci, _)) => ci
  | _ => 1000
theorem am_run_call0 {q : Nat} {as rest : List Value} (h : am_step m pc ls st σ τ = some (.inr (.inr (q, as, rest)))) : am_run 0 m pc ls st σ τ = none := by
  cases hr : am_run 0 m pc ls st σ τ with
  | none => rfl
  | some r =>
    obtain ⟨n, hn⟩ := am_run_iff.mp hr
    cases n with
    | zero => cases hn
    | succ n => rw [am_ev, h] at hn; cases hn
theorem rr_invv {i q k : Nat} (as : List Value) (hd : decode (am_code m) pc = .ok (.invokevirtual i, 3)) (hm : am_mr (am_cl m) i = some q) (hq : am_st q = false ∧ q < am_NM) (hn : as.length = am_np q) (hf : (am_flat (.ref k :: as)).length ≤ am_mxl q) (hk : am_kc k = am_cl q) (hc : am_cats st ≤ 8) : am_run (d + 1) m pc ls (as.reverse ++ .ref k :: st) σ τ = (am_call d q (.ref k :: as) σ τ).bind (fun r => am_run (d + 1) m (pc + 3) ls (r.1.toList ++ st) r.2.1 r.2.2) := by
  apply am_run_call
  rw [am_step_eq hd]
  show am_invv (am_cl m) i (as.reverse ++ .ref k :: st) = _
  unfold am_invv
  rw [hm]
  dsimp only
  have hl : as.reverse.length = am_np q := by rw [List.length_reverse]; exact hn
  rw [if_pos hq, ← hl, List.drop_left, List.take_left, List.reverse_reverse]
  dsimp only
  unfold am_kc at hk
  split at hk
  · rename_i ci fds hs
    rw [hs]
    dsimp only
    rw [if_pos ⟨hk, by rw [List.length_append]; omega, hc, hf⟩]
  · exfalso
    have : ∀ c : Nat, c < am_NM → am_cl c ≠ 1000 := by decide +kernel
    exact this q hq.2 hk.symm
theorem rr_invs {i q : Nat} (as : List Value) (hd : decode (am_code m) pc = .ok (.invokestatic i, 3)) (hmm : am_mm (am_cl m) i = none) (hm : am_mr (am_cl m) i = some q) (hq : am_st q = true ∧ q < am_NM) (hn : as.length = am_np q) (hf : (am_flat as).length ≤ am_mxl q) (hc : am_cats st ≤ 8) : am_run (d + 1) m pc ls (as.reverse ++ st) σ τ = (am_call d q as σ τ).bind (fun r => am_run (d + 1) m (pc + 3) ls (r.1.toList ++ st) r.2.1 r.2.2) := by
  apply am_run_call
  rw [am_step_eq hd]
  show (match am_mm (am_cl m) i with
    | some b => am_mth b pc ls (as.reverse ++ st) σ τ
    | none => am_invs (am_cl m) i (as.reverse ++ st)) = _
  rw [hmm]
  show am_invs (am_cl m) i (as.reverse ++ st) = _
  unfold am_invs
  rw [hm]
  dsimp only
  have hl : as.reverse.length = am_np q := by rw [List.length_reverse]; exact hn
  rw [← hl, List.drop_left, List.take_left, List.reverse_reverse, if_pos ⟨hq.1, hq.2, by rw [List.length_append]; omega, hc, hf⟩]
theorem rr_max {i : Nat} {x y : Int32} (hd : decode (am_code m) pc = .ok (.invokestatic i, 3)) (hm : am_mm (am_cl m) i = some true) (hc : am_cats st ≤ 8) : am_run d m pc ls (.int y :: .int x :: st) σ τ = am_run d m (pc + 3) ls (.int (if x < y then y else x) :: st) σ τ := by
  refine rr_next hd ?_
  show (match am_mm (am_cl m) i with
    | some b => am_mth b pc ls (.int y :: .int x :: st) σ τ
    | none => am_invs (am_cl m) i (.int y :: .int x :: st)) = _
  rw [hm]
  show (if am_cats st ≤ 8 then _ else none) = _
  rw [if_pos hc]
  rfl
theorem rr_min {i : Nat} {x y : Int32} (hd : decode (am_code m) pc = .ok (.invokestatic i, 3)) (hm : am_mm (am_cl m) i = some false) (hc : am_cats st ≤ 8) : am_run d m pc ls (.int y :: .int x :: st) σ τ = am_run d m (pc + 3) ls (.int (if y < x then y else x) :: st) σ τ := by
  refine rr_next hd ?_
  show (match am_mm (am_cl m) i with
    | some b => am_mth b pc ls (.int y :: .int x :: st) σ τ
    | none => am_invs (am_cl m) i (.int y :: .int x :: st)) = _
  rw [hm]
  show (if am_cats st ≤ 8 then _ else none) = _
  rw [if_pos hc]
  rfl
theorem rr_iret {x : Int32} (hd : decode (am_code m) pc = .ok (.ireturn, 1)) (hr : am_rt m = some .int) : am_run d m pc ls [.int x] σ τ = some (some (.int x), σ, τ) := by
  refine am_run_ret ((am_step_eq hd).trans ?_)
  show am_iret m [.int x] = _
  unfold am_iret
  rw [hr]
theorem rr_zret {x : Int32} (hd : decode (am_code m) pc = .ok (.ireturn, 1)) (hr : am_rt m = some .boolean) (hx : x = 0 ∨ x = 1) : am_run d m pc ls [.int x] σ τ = some (some (.int x), σ, τ) := by
  refine am_run_ret ((am_step_eq hd).trans ?_)
  show am_iret m [.int x] = _
  unfold am_iret
  rw [hr]
  dsimp only
  rw [if_pos hx]
theorem rr_lret {x : Int64} (hd : decode (am_code m) pc = .ok (.lreturn, 1)) (hr : am_rt m = some .long) : am_run d m pc ls [.long x] σ τ = some (some (.long x), σ, τ) := by
  refine am_run_ret ((am_step_eq hd).trans ?_)
  show am_lret m [.long x] = _
  unfold am_lret
  rw [hr]
theorem rr_vret (hd : decode (am_code m) pc = .ok (.return_, 1)) (hr : am_rt m = none) : am_run d m pc ls [] σ τ = some (none, σ, τ) := by
  refine am_run_ret ((am_step_eq hd).trans ?_)
  show am_vret m [] = _
  unfold am_vret
  rw [hr]
end AMR
