/-! the abstract machine is sound: what it answers, the machine answers -/
section AMS
variable {p : Program} {l : Launch} {e : Env} {R : Room} {s : State} {mi : MethodId} {args : Array Value} {below : List Frame} {meth : Method} {c : Code} {H : Heap} {locs : List Loc} {cells slots : Nat} {Q : State → Prop}
variable {dC : Nat → ClassId} {dI : Nat → Nat → Nat} {adr : Nat → Nat} {cI cZ : ClassId} {A : Nat → Prop} {H0 : Heap}
variable {m pc : Nat} {ls st : List Value} {σ : am_St} {τ : Int64} {lsj : Array Slot}
theorem am_if {cc : ByteArray} {rest : List Value} (hx : p.tables.exec = Jvm.exec) (hb : c.code = cc) {x : Int32} {off : Int} {tgt : Nat} (cd : ClassFile.Cond) (hd : decode cc pc = .ok (.ifCond cd off, 3)) (ht : (pc : Int) + off = (tgt : Int)) (kt : am_cond cd x 0 = true → W p l e R s mi args below meth c H locs cells slots Q (F0 mi tgt lsj rest)) (kf : am_cond cd x 0 = false → W p l e R s mi args below meth c H locs cells slots Q (F0 mi (pc + 3) lsj rest)) : W p l e R s mi args below meth c H locs cells slots Q (F0 mi pc lsj (.int x :: rest)) := by
  cases cd
  · exact lv_if_eq hx hb hd ht (fun h => kt (decide_eq_true h)) (fun h => kf (decide_eq_false h))
  · exact lv_if_ne hx hb hd ht (fun h => kt (decide_eq_true h)) (fun h => kf (decide_eq_false (fun n => n h)))
  · exact lv_if_lt hx hb hd ht (fun h => kt (decide_eq_true h)) (fun h => kf (decide_eq_false h))
  · exact lv_if_ge hx hb hd ht (fun h => kt (decide_eq_true h)) (fun h => kf (decide_eq_false h))
  · exact lv_if_gt hx hb hd ht (fun h => kt (decide_eq_true h)) (fun h => kf (decide_eq_false h))
  · exact lv_if_le hx hb hd ht (fun h => kt (decide_eq_true h)) (fun h => kf (decide_eq_false h))
theorem am_icmp {cc : ByteArray} {rest : List Value} (hx : p.tables.exec = Jvm.exec) (hb : c.code = cc) {x y : Int32} {off : Int} {tgt : Nat} (cd : ClassFile.Cond) (hd : decode cc pc = .ok (.if_icmp cd off, 3)) (ht : (pc : Int) + off = (tgt : Int)) (kt : am_cond cd x y = true → W p l e R s mi args below meth c H locs cells slots Q (F0 mi tgt lsj rest)) (kf : am_cond cd x y = false → W p l e R s mi args below meth c H locs cells slots Q (F0 mi (pc + 3) lsj rest)) : W p l e R s mi args below meth c H locs cells slots Q (F0 mi pc lsj (.int y :: .int x :: rest)) := by
  cases cd
  · exact lv_icmp_eq hx hb hd ht (fun h => kt (decide_eq_true h)) (fun h => kf (decide_eq_false h))
  · exact lv_icmp_ne hx hb hd ht (fun h => kt (decide_eq_true h)) (fun h => kf (decide_eq_false (fun n => n h)))
  · exact lv_icmp_lt hx hb hd ht (fun h => kt (decide_eq_true h)) (fun h => kf (decide_eq_false h))
  · exact lv_icmp_ge hx hb hd ht (fun h => kt (decide_eq_true h)) (fun h => kf (decide_eq_false h))
  · exact lv_icmp_gt hx hb hd ht (fun h => kt (decide_eq_true h)) (fun h => kf (decide_eq_false h))
  · exact lv_icmp_le hx hb hd ht (fun h => kt (decide_eq_true h)) (fun h => kf (decide_eq_false h))
end AMS
theorem am_nx_inj {a a' : Nat} {b b' d d' : List Value} {σ σ' : am_St} {τ τ' : Int64} (h : am_nx a b d σ τ = am_nx a' b' d' σ' τ') : a = a' ∧ b = b' ∧ d = d' ∧ σ = σ' ∧ τ = τ' := by
  simpa [am_nx] using h
theorem am_tg_ok {pc : Nat} {off : Int} (h : 0 ≤ (pc : Int) + off) : (pc : Int) + off = (am_tg pc off : Int) := (Int.toNat_of_nonneg h).symm
theorem am_jmp_inj {pc a' : Nat} {off : Int} {b b' d d' : List Value} {σ σ' : am_St} {τ τ' : Int64} (h : am_jmp pc off b d σ τ = am_nx a' b' d' σ' τ') : (pc : Int) + off = (a' : Int) ∧ b = b' ∧ d = d' ∧ σ = σ' ∧ τ = τ' := by
  unfold am_jmp at h
  split at h
  · rename_i h0
    obtain ⟨rfl, h2⟩ := am_nx_inj h
    exact ⟨am_tg_ok h0, h2⟩
  · cases h
/-- an abstract value's meaning -/
def am_cv (adr : Nat → Nat) (v : Value) : Value := match v with
  | .ref k => .ref (adr k)
  | v => v
theorem am_cv_cat (adr : Nat → Nat) (v : Value) : (am_cv adr v).category = v.category := by cases v <;> rfl
theorem am_cats_cv (adr : Nat → Nat) (st : List Value) : ((st.map (am_cv adr)).map fun v => v.category).sum = am_cats st := by
  unfold am_cats
  rw [List.map_map]
  congr 1
  apply List.map_congr_left
  intro v _
  exact am_cv_cat adr v
/-- the locals that are held -/
def am_la (adr : Nat → Nat) (ls : List Value) : List (Nat × Value) := (List.range ls.length).filterMap fun i => match ls[i]? with
  | some Value.null => none
  | some v => some (i, am_cv adr v)
  | none => none
theorem am_la_mem {adr : Nat → Nat} {ls : List Value} {q : Nat × Value} : q ∈ am_la adr ls ↔ ∃ v, ls[q.1]? = some v ∧ v ≠ .null ∧ q.2 = am_cv adr v := by
  unfold am_la
  rw [List.mem_filterMap]
  constructor
  · rintro ⟨i, -, h⟩
    split at h
    · cases h
    · rename_i v hv hi
      cases h
      exact ⟨v, hi, fun h => hv h, rfl⟩
    · cases h
  · rintro ⟨v, h1, h2, h3⟩
    obtain ⟨i, w⟩ := q
    dsimp only at h1 h3
    subst h3
    refine ⟨i, List.mem_range.mpr (List.getElem?_eq_some_iff.mp h1).1, ?_⟩
    rw [h1]
    cases v <;> first | rfl | exact absurd rfl h2
theorem am_la_get {adr : Nat → Nat} {ls : List Value} {lsj : Array Slot} {n i : Nat} {v : Value} (hl : lv_has lsj n (am_la adr ls)) (h : ls.getD i .null = v) (hv : v ≠ .null) : lsj[i]? = some (.val (am_cv adr v)) := by
  refine hl.2.2 (i, am_cv adr v) (am_la_mem.mpr ⟨v, ?_, hv, rfl⟩)
  rw [List.getD_eq_getElem?_getD] at h
  show ls[i]? = some v
  cases hi : ls[i]? with
  | none => rw [hi] at h; exact absurd h.symm hv
  | some w => rw [hi] at h; exact congrArg some h
theorem am_set_self {l : List Value} {j : Nat} {v w : Value} (h : (l.set j v)[j]? = some w) : w = v := by
  rw [List.getElem?_set_self'] at h
  obtain ⟨z, -, hz⟩ := Option.map_eq_some_iff.mp h
  exact hz.symm
theorem am_set1_get {ls : List Value} {i j : Nat} {v w : Value} (h : (am_set1 ls i v)[j]? = some w) (hw : w ≠ .null) : (j = i ∧ w = v) ∨ (j ≠ i ∧ ls[j]? = some w ∧ ¬ (j + 1 = i ∧ w.category = 2)) := by
  unfold am_set1 at h
  cases i with
  | zero =>
    dsimp only at h
    by_cases hj : j = 0
    · subst hj
      rw [List.getElem?_set] at h
      simp only [if_true] at h
      split at h
      · left; exact ⟨rfl, (Option.some.inj h).symm⟩
      · cases h
    · right
      rw [List.getElem?_set_ne (Ne.symm hj)] at h
      exact ⟨hj, h, fun q => by omega⟩
  | succ i =>
    dsimp only at h
    by_cases hj : j = i + 1
    · subst hj
      left
      exact ⟨rfl, am_set_self h⟩
    · right
      rw [List.getElem?_set_ne (Ne.symm hj)] at h
      refine ⟨hj, ?_⟩
      cases hi : ls[i]? with
      | none =>
        rw [hi] at h
        refine ⟨h, fun q => ?_⟩
        have : j = i := by omega
        subst this
        dsimp only at h
        rw [hi] at h
        cases h
      | some x =>
        rw [hi] at h
        dsimp only at h
        split at h
        · rename_i hc
          by_cases hji : j = i
          · subst hji
            rw [List.getElem?_set] at h
            simp only [if_true] at h
            split at h
            · exact absurd (Option.some.inj h).symm hw
            · cases h
          · rw [List.getElem?_set_ne (Ne.symm hji)] at h
            exact ⟨h, fun q => by omega⟩
        · rename_i hc
          refine ⟨h, fun q => ?_⟩
          have : j = i := by omega
          subst this
          rw [hi] at h
          cases h
          exact hc q.2
theorem am_la_set1 {adr : Nat → Nat} {ls : List Value} {lsj : Array Slot} {n i : Nat} {v : Value} (h : lv_has lsj n ((i, am_cv adr v) :: (am_la adr ls).filter (fun q => !(q.1 == i) && !(q.1 + 1 == i && q.2.category == 2)))) : lv_has lsj n (am_la adr (am_set1 ls i v)) := by
  refine ⟨h.1, h.2.1, fun q hq => h.2.2 q ?_⟩
  obtain ⟨w, h1, h2, h3⟩ := am_la_mem.mp hq
  obtain ⟨j, x⟩ := q
  dsimp only at h1 h3
  rcases am_set1_get h1 h2 with ⟨rfl, rfl⟩ | ⟨g1, g2, g3⟩
  · subst h3; exact List.mem_cons_self
  · refine List.mem_cons_of_mem _ (List.mem_filter.mpr ⟨am_la_mem.mpr ⟨w, g2, h2, h3⟩, ?_⟩)
    subst h3
    simp only [Bool.and_eq_true, Bool.not_eq_true', beq_eq_false_iff_ne, ne_eq, Bool.and_eq_false_iff, am_cv_cat]
    refine ⟨g1, ?_⟩
    by_cases hj : j + 1 = i
    · right; exact fun q => g3 ⟨hj, q⟩
    · left; exact hj
theorem am_la_set2 {adr : Nat → Nat} {ls : List Value} {lsj : Array Slot} {n i : Nat} {v : Value} (h : lv_has lsj n ((i, am_cv adr v) :: (am_la adr ls).filter (fun q => !(q.1 == i) && (!(q.1 == i + 1) && !(q.1 + 1 == i && q.2.category == 2))))) : lv_has lsj n (am_la adr (am_set2 ls i v)) := by
  refine ⟨h.1, h.2.1, fun q hq => h.2.2 q ?_⟩
  obtain ⟨w, h1, h2, h3⟩ := am_la_mem.mp hq
  obtain ⟨j, x⟩ := q
  dsimp only at h1 h3
  unfold am_set2 at h1
  have hj : j ≠ i + 1 := by
    rintro rfl
    rw [List.getElem?_set] at h1
    simp only [if_true] at h1
    split at h1
    · exact h2 (Option.some.inj h1).symm
    · cases h1
  rw [List.getElem?_set_ne (Ne.symm hj)] at h1
  rcases am_set1_get h1 h2 with ⟨rfl, rfl⟩ | ⟨g1, g2, g3⟩
  · subst h3; exact List.mem_cons_self
  · refine List.mem_cons_of_mem _ (List.mem_filter.mpr ⟨am_la_mem.mpr ⟨w, g2, h2, h3⟩, ?_⟩)
    subst h3
    simp only [Bool.and_eq_true, Bool.not_eq_true', beq_eq_false_iff_ne, ne_eq, Bool.and_eq_false_iff, am_cv_cat]
    refine ⟨g1, hj, ?_⟩
    by_cases hj : j + 1 = i
    · right; exact fun q => g3 ⟨hj, q⟩
    · left; exact hj
/-! the world -/
def am_fv (adr : Nat → Nat) (σ : am_St) (τ : Int64) (k j f : Nat) : Value := am_cv adr (am_fv0 σ τ k j f)
def am_wc (adr : Nat → Nat) (cI cZ : ClassId) (σ : am_St) (τ : Int64) (k : Nat) : va_E := match am_sh k with
  | some (.inl (z, n)) => .inl (if z = true then cZ else cI, n, .inl (σ k))
  | some (.inr (ci, fds)) => .inr (ci, (List.range fds.length).map (fun j => am_fv adr σ τ k j (fds.getD j 0)))
  | none => .inr (0, [])
def am_ws (adr : Nat → Nat) (cI cZ : ClassId) (σ : am_St) (τ : Int64) : va_W := (List.range am_N).map (fun k => (adr k, am_wc adr cI cZ σ τ k))
theorem am_ws_get {adr : Nat → Nat} {cI cZ : ClassId} {σ : am_St} {τ : Int64} {k : Nat} (hk : k < am_N) : (am_ws adr cI cZ σ τ)[k]? = some (adr k, am_wc adr cI cZ σ τ k) := by
  unfold am_ws
  rw [List.getElem?_map, List.getElem?_range hk]
  rfl
theorem am_shl_len : am_shl.length = am_N := by decide +kernel
theorem am_sh_lt {k : Nat} {x : (Bool × Nat) ⊕ (Nat × List Nat)} (h : am_sh k = some x) : k < am_N := by
  rw [← am_shl_len]
  exact (List.getElem?_eq_some_iff.mp h).1
theorem am_ws_set {adr : Nat → Nat} {cI cZ : ClassId} {σ σ' : am_St} {τ τ' : Int64} (k : Nat) (ee : va_E) (he : ee = am_wc adr cI cZ σ' τ' k) (hne : ∀ a, a < am_N → a ≠ k → am_wc adr cI cZ σ τ a = am_wc adr cI cZ σ' τ' a) : (am_ws adr cI cZ σ τ).set k (adr k, ee) = am_ws adr cI cZ σ' τ' := by
  subst he
  apply List.ext_getElem?
  intro a
  by_cases ha : a < am_N
  · by_cases hk : a = k
    · subst hk
      rw [List.getElem?_set]
      have : a < (am_ws adr cI cZ σ τ).length := by unfold am_ws; rw [List.length_map, List.length_range]; exact ha
      simp [this, am_ws_get ha]
    · rw [List.getElem?_set_ne (Ne.symm hk), am_ws_get ha, am_ws_get ha, hne a ha hk]
  · have h1 : ((am_ws adr cI cZ σ τ).set k (adr k, am_wc adr cI cZ σ' τ' k)).length ≤ a := by unfold am_ws; rw [List.length_set, List.length_map, List.length_range]; omega
    have h2 : (am_ws adr cI cZ σ' τ').length ≤ a := by unfold am_ws; rw [List.length_map, List.length_range]; omega
    rw [List.getElem?_eq_none h1, List.getElem?_eq_none h2]
theorem am_up_ne {σ : am_St} {k j a : Nat} {v : Int32} (h : a ≠ k) : am_up σ k j v a = σ a := by
  unfold am_up; rw [if_neg h]
theorem am_up_eq {σ : am_St} {k j : Nat} {v : Int32} : am_up σ k j v k = upd (σ k) j v := by
  unfold am_up; rw [if_pos rfl]
theorem am_fv_up_ne {adr : Nat → Nat} {σ : am_St} {τ : Int64} {k j a i f : Nat} {v : Int32} (h : a ≠ k) : am_fv adr (am_up σ k j v) τ a i f = am_fv adr σ τ a i f := by
  unfold am_fv am_fv0
  split <;> first | rw [am_up_ne h] | rfl
theorem am_wc_up_ne {adr : Nat → Nat} {cI cZ : ClassId} {σ : am_St} {τ : Int64} {k j a : Nat} {v : Int32} (h : a ≠ k) : am_wc adr cI cZ σ τ a = am_wc adr cI cZ (am_up σ k j v) τ a := by
  unfold am_wc
  split
  · rw [am_up_ne h]
  · congr 3
    funext i
    rw [am_fv_up_ne h]
  · rfl

theorem am_fs_up {adr : Nat → Nat} {σ : am_St} {τ : Int64} {k j : Nat} {fds : List Nat} {x : Int32} (hf : fds[j]? = some 0 ∨ fds[j]? = some 2) : ((List.range fds.length).map (fun i => am_fv adr σ τ k i (fds.getD i 0))).set j (.int x) = (List.range fds.length).map (fun i => am_fv adr (am_up σ k j x) τ k i (fds.getD i 0)) := by
  apply List.ext_getElem?
  intro i
  by_cases hi : i < fds.length
  · by_cases hj : i = j
    · subst hj
      rw [List.getElem?_set]
      simp only [List.length_map, List.length_range, hi, if_true, List.getElem?_map, List.getElem?_range hi, Option.map_some]
      congr 1
      have hd : fds.getD i 0 = 0 ∨ fds.getD i 0 = 2 := by
        rw [List.getD_eq_getElem?_getD]
        rcases hf with h | h <;> rw [h] <;> simp
      unfold am_fv am_fv0
      rcases hd with h | h <;> rw [h] <;> simp [am_cv, am_up_eq, upd]
    · rw [List.getElem?_set_ne (Ne.symm hj)]
      simp only [List.getElem?_map, List.getElem?_range hi, Option.map_some]
      congr 1
      unfold am_fv am_fv0
      split <;> simp [am_up_eq, upd, hj]
  · rw [List.getElem?_eq_none (by rw [List.length_set, List.length_map, List.length_range]; omega), List.getElem?_eq_none (by rw [List.length_map, List.length_range]; omega)]
def am_ty (cI cZ : ClassId) : List (ClassId × FieldType) := [(cI, .int), (cZ, .boolean)]
/-- a frame of the method m: the machine, its code, the tables' words -/
def am_Cx (p : Program) (s : State) (mi : MethodId) (args : Array Value) (meth : Method) (c : Code) (dC : Nat → ClassId) (dI : Nat → Nat → Nat) (cI cZ : ClassId) (m : Nat) : Prop := p.tables.exec = Jvm.exec ∧ c.code = am_code m ∧ c.maxLocals = am_mxl m ∧ s.vm.findClass (am_R (am_cl m)) = some mi.cls ∧ (∀ w ∈ am_tb, w.before args s = true) ∧ meth.sig.returnType = am_rt m ∧ meth.locks = false ∧ va_K (dC, dI) vwCl (am_ty cI cZ) s
def am_Wd (dC : Nat → ClassId) (dI : Nat → Nat → Nat) (adr : Nat → Nat) (cI cZ : ClassId) (A : Nat → Prop) (σ : am_St) (τ : Int64) (H : Heap) : Prop := va_P (dC, dI) vwCl (am_ws adr cI cZ σ τ) H ∧ va_D A (am_ws adr cI cZ σ τ)
section AMN
variable {p : Program} {l : Launch} {e : Env} {R : Room} {s : State} {mi : MethodId} {args : Array Value} {below : List Frame} {meth : Method} {c : Code} {H : Heap} {locs : List Loc} {cells slots : Nat} {Q : State → Prop}
variable {dC : Nat → ClassId} {dI : Nat → Nat → Nat} {adr : Nat → Nat} {cI cZ : ClassId} {A : Nat → Prop} {H0 : Heap}
variable {m pc : Nat} {ls st : List Value} {σ : am_St} {τ : Int64} {lsj : Array Slot}
theorem am_obj {k ci : Nat} {fds : List Nat} (h : am_sh k = some (.inr (ci, fds))) : (am_ws adr cI cZ σ τ)[k]? = some (adr k, .inr (ci, (List.range fds.length).map (fun j => am_fv adr σ τ k j (fds.getD j 0)))) := by
  rw [am_ws_get (am_sh_lt h)]
  unfold am_wc
  rw [h]
theorem am_arr {k n : Nat} {z : Bool} (h : am_sh k = some (.inl (z, n))) : (am_ws adr cI cZ σ τ)[k]? = some (adr k, .inl (if z = true then cZ else cI, n, .inl (σ k))) := by
  rw [am_ws_get (am_sh_lt h)]
  unfold am_wc
  rw [h]
theorem am_arr_set {k n j : Nat} {z : Bool} {x : Int32} (h : am_sh k = some (.inl (z, n))) : (am_ws adr cI cZ σ τ).set k (adr k, .inl (if z = true then cZ else cI, n, .inl (upd (σ k) j x))) = am_ws adr cI cZ (am_up σ k j x) τ := by
  refine am_ws_set k _ ?_ (fun a _ ha => am_wc_up_ne ha)
  unfold am_wc
  rw [h]
  dsimp only
  rw [am_up_eq]
theorem am_obj_set {k ci j : Nat} {fds : List Nat} {x : Int32} (h : am_sh k = some (.inr (ci, fds))) (hf : fds[j]? = some 0 ∨ fds[j]? = some 2) : (am_ws adr cI cZ σ τ).set k (adr k, .inr (ci, ((List.range fds.length).map (fun j => am_fv adr σ τ k j (fds.getD j 0))).set j (.int x))) = am_ws adr cI cZ (am_up σ k j x) τ := by
  refine am_ws_set k _ ?_ (fun a _ ha => am_wc_up_ne ha)
  unfold am_wc
  rw [h]
  dsimp only
  rw [am_fs_up hf]
/-- putting a number into an object's field -/
theorem am_put1 {cc : ByteArray} {rest : List Value} {own ci j i k : Nat} {fds : List Nat} {x : Int32} {ty : FieldType} (hx : p.tables.exec = Jvm.exec) (hb : c.code = cc) (hts : ∀ w ∈ am_tb, w.before args s = true) (hown : s.vm.findClass (am_R own) = some mi.cls) (hK : va_K (dC, dI) vwCl (am_ty cI cZ) s) (hW : am_Wd dC dI adr cI cZ A σ τ H) (hS : va_S A H0 H locs) (hfr : am_fr own i = some (ci, j)) (hsh : am_sh k = some (.inr (ci, fds))) (hf : (fds[j]? = some 0 ∧ ty = .int) ∨ (fds[j]? = some 2 ∧ ty = .boolean)) (hn : narrow ty (.int x) = .int x) (hfit : fits ty (.int x) = true) (hd : decode cc pc = .ok (.putfield i, 3))
    (kk : ∀ (H1 : Heap) (locs1 : List Loc), am_Wd dC dI adr cI cZ A (am_up σ k j x) τ H1 → va_S A H0 H1 locs1 → W p l e R s mi args below meth c H1 locs1 cells slots Q (F0 mi (pc + 3) lsj rest)) : W p l e R s mi args below meth c H locs cells slots Q (F0 mi pc lsj (.int x :: .ref (adr k) :: rest)) := by
  obtain ⟨C, T, N, hcl, hj, hlk, hT1⟩ := am_fr_ok hfr
  obtain ⟨C2, T2, N2, hcl2, hlen, hC, hall⟩ := am_sh_ok hsh
  cases hcl.symm.trans hcl2
  obtain ⟨h1, ⟨ty0, h2⟩, h3⟩ := am_cls_ok hcl
  have hj4 := hall j hj
  have hty : parseFieldDescriptor (T j).2.2.1 = some ty ∧ (T j).2.2.2 = false := by
    rcases hf with ⟨hf, rfl⟩ | ⟨hf, rfl⟩
    · rw [hf] at hj4; simp only [am_schj, Bool.and_eq_true, decide_eq_true_eq] at hj4; exact hj4
    · rw [hf] at hj4; simp only [am_schj, Bool.and_eq_true, decide_eq_true_eq] at hj4; exact hj4
  have hset := am_obj_set (adr := adr) (cI := cI) (cZ := cZ) (σ := σ) (τ := τ) (x := x) hsh (hf.imp And.left And.left)
  refine va_put (D := (dC, dI)) hx hb hts h1 ty0 h2 h3 hown hK hW.1 hW.2 hS k (am_obj hsh) hcl j hj (hts _ hlk) (fun x h => by rw [hT1] at h; exact h) hty.2 hty.1 hn hfit (by rw [List.length_map, List.length_range, hlen]; exact hj) hd (fun H1 locs1 g1 g2 g3 => ?_)
  rw [hset] at g1 g2
  exact kk H1 locs1 ⟨g1, g2⟩ g3
end AMN
