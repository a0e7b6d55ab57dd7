theorem dX5_search_0 : decode (am_code 26) 0 = .ok (.aload_n 0, 1) := by decide +kernel
theorem dX5_search_1 : decode (am_code 26) 1 = .ok (.iconst 0, 1) := by decide +kernel
theorem dX5_search_2 : decode (am_code 26) 2 = .ok (.putfield 31, 3) := by decide +kernel
theorem dX5_search_5 : decode (am_code 26) 5 = .ok (.aload_n 0, 1) := by decide +kernel
theorem dX5_search_6 : decode (am_code 26) 6 = .ok (.getfield 20, 3) := by decide +kernel
theorem dX5_search_9 : decode (am_code 26) 9 = .ok (.iload_n 1, 1) := by decide +kernel
theorem dX5_search_10 : decode (am_code 26) 10 = .ok (.putfield 35, 3) := by decide +kernel
theorem dX5_search_13 : decode (am_code 26) 13 = .ok (.iconst 0, 1) := by decide +kernel
theorem dX5_search_14 : decode (am_code 26) 14 = .ok (.istore_n 2, 1) := by decide +kernel
theorem dX5_search_15 : decode (am_code 26) 15 = .ok (.iload_n 2, 1) := by decide +kernel
theorem dX5_search_16 : decode (am_code 26) 16 = .ok (.bipush 68, 2) := by decide +kernel
theorem dX5_search_18 : decode (am_code 26) 18 = .ok (.if_icmp .ge 54, 3) := by decide +kernel
theorem dX5_search_21 : decode (am_code 26) 21 = .ok (.aload_n 0, 1) := by decide +kernel
theorem dX5_search_22 : decode (am_code 26) 22 = .ok (.iload_n 2, 1) := by decide +kernel
theorem dX5_search_23 : decode (am_code 26) 23 = .ok (.invokevirtual 38, 3) := by decide +kernel
theorem dX5_search_26 : decode (am_code 26) 26 = .ok (.aload_n 0, 1) := by decide +kernel
theorem dX5_search_27 : decode (am_code 26) 27 = .ok (.getfield 27, 3) := by decide +kernel
theorem dX5_search_30 : decode (am_code 26) 30 = .ok (.aload_n 0, 1) := by decide +kernel
theorem dX5_search_31 : decode (am_code 26) 31 = .ok (.getfield 23, 3) := by decide +kernel
theorem dX5_search_34 : decode (am_code 26) 34 = .ok (.getfield 42, 3) := by decide +kernel
theorem dX5_search_37 : decode (am_code 26) 37 = .ok (.aload_n 0, 1) := by decide +kernel
theorem dX5_search_38 : decode (am_code 26) 38 = .ok (.getfield 23, 3) := by decide +kernel
theorem dX5_search_41 : decode (am_code 26) 41 = .ok (.getfield 48, 3) := by decide +kernel
theorem dX5_search_44 : decode (am_code 26) 44 = .ok (.aload_n 0, 1) := by decide +kernel
theorem dX5_search_45 : decode (am_code 26) 45 = .ok (.getfield 20, 3) := by decide +kernel
theorem dX5_search_48 : decode (am_code 26) 48 = .ok (.invokevirtual 51, 3) := by decide +kernel
theorem dX5_search_51 : decode (am_code 26) 51 = .ok (.aload_n 0, 1) := by decide +kernel
theorem dX5_search_52 : decode (am_code 26) 52 = .ok (.getfield 27, 3) := by decide +kernel
theorem dX5_search_55 : decode (am_code 26) 55 = .ok (.invokevirtual 57, 3) := by decide +kernel
theorem dX5_search_58 : decode (am_code 26) 58 = .ok (.iconst (-1), 1) := by decide +kernel
theorem dX5_search_59 : decode (am_code 26) 59 = .ok (.if_icmp .ne 7, 3) := by decide +kernel
theorem dX5_search_62 : decode (am_code 26) 62 = .ok (.aload_n 0, 1) := by decide +kernel
theorem dX5_search_63 : decode (am_code 26) 63 = .ok (.invokevirtual 61, 3) := by decide +kernel
theorem dX5_search_66 : decode (am_code 26) 66 = .ok (.iinc 2 1, 3) := by decide +kernel
theorem dX5_search_69 : decode (am_code 26) 69 = .ok (.goto (-54), 3) := by decide +kernel
theorem dX5_search_72 : decode (am_code 26) 72 = .ok (.return_, 1) := by decide +kernel
theorem r26_0 (d : Nat) (st : List Value) (σ : am_St) (τ : Int64) (x : Nat) (v1 v2 : Value) : am_run d 26 0 [.ref x, v1, v2] st σ τ = am_run d 26 1 [.ref x, v1, v2] (.ref x :: st) σ τ := rr_aload_n dX5_search_0 rfl
theorem r26_1 (d : Nat) (ls st : List Value) (σ : am_St) (τ : Int64) : am_run d 26 1 ls st σ τ = am_run d 26 2 ls (.int 0 :: st) σ τ := rr_iconst 0 dX5_search_1 (by decide)
theorem r26_2 (d : Nat) (ls st : List Value) (σ : am_St) (τ : Int64) (k : Nat) (x : Int32) : am_run d 26 2 ls (.int x :: .ref k :: st) σ τ = am_pf k 5 0 x σ (fun σ => am_run d 26 5 ls st σ τ) := rr_putf dX5_search_2 (by decide +kernel)
theorem r26_5 (d : Nat) (st : List Value) (σ : am_St) (τ : Int64) (x : Nat) (v1 v2 : Value) : am_run d 26 5 [.ref x, v1, v2] st σ τ = am_run d 26 6 [.ref x, v1, v2] (.ref x :: st) σ τ := rr_aload_n dX5_search_5 rfl
theorem r26_6 (d : Nat) (ls st : List Value) (σ : am_St) (τ : Int64) (k : Nat) : am_run d 26 6 ls (.ref k :: st) σ τ = am_gf k 5 2 σ τ (fun v => am_run d 26 9 ls (v :: st) σ τ) := rr_getf dX5_search_6 (by decide +kernel)
theorem r26_9 (d : Nat) (st : List Value) (σ : am_St) (τ : Int64) (x : Int32) (v0 v2 : Value) : am_run d 26 9 [v0, .int x, v2] st σ τ = am_run d 26 10 [v0, .int x, v2] (.int x :: st) σ τ := rr_iload_n dX5_search_9 rfl
theorem r26_10 (d : Nat) (ls st : List Value) (σ : am_St) (τ : Int64) (k : Nat) (x : Int32) : am_run d 26 10 ls (.int x :: .ref k :: st) σ τ = am_pf k 4 3 x σ (fun σ => am_run d 26 13 ls st σ τ) := rr_putf dX5_search_10 (by decide +kernel)
theorem r26_13 (d : Nat) (ls st : List Value) (σ : am_St) (τ : Int64) : am_run d 26 13 ls st σ τ = am_run d 26 14 ls (.int 0 :: st) σ τ := rr_iconst 0 dX5_search_13 (by decide)
theorem r26_14 (d : Nat) (st : List Value) (σ : am_St) (τ : Int64) (x : Int32) (v0 v1 v2 : Value) : am_run d 26 14 [v0, v1, v2] (.int x :: st) σ τ = am_run d 26 15 [v0, am_nl v1, .int x] st σ τ := rr_istore_n _ dX5_search_14 (by decide) (by first | rfl | (by_cases h : v1.category = 2 <;> simp [am_set1, am_nl, h]))
theorem r26_15 (d : Nat) (st : List Value) (σ : am_St) (τ : Int64) (x : Int32) (v0 v1 : Value) : am_run d 26 15 [v0, v1, .int x] st σ τ = am_run d 26 16 [v0, v1, .int x] (.int x :: st) σ τ := rr_iload_n dX5_search_15 rfl
theorem r26_16 (d : Nat) (ls st : List Value) (σ : am_St) (τ : Int64) : am_run d 26 16 ls st σ τ = am_run d 26 18 ls (.int 68 :: st) σ τ := rr_bipush 68 dX5_search_16 (by decide)
theorem r26_18 (d : Nat) (ls st : List Value) (σ : am_St) (τ : Int64) (x y : Int32) : am_run d 26 18 ls (.int y :: .int x :: st) σ τ = if y ≤ x then am_run d 26 72 ls st σ τ else am_run d 26 21 ls st σ τ := (rr_icmp 72 dX5_search_18 (by decide)).trans am_sel
theorem r26_21 (d : Nat) (st : List Value) (σ : am_St) (τ : Int64) (x : Nat) (v1 v2 : Value) : am_run d 26 21 [.ref x, v1, v2] st σ τ = am_run d 26 22 [.ref x, v1, v2] (.ref x :: st) σ τ := rr_aload_n dX5_search_21 rfl
theorem r26_22 (d : Nat) (st : List Value) (σ : am_St) (τ : Int64) (x : Int32) (v0 v1 : Value) : am_run d 26 22 [v0, v1, .int x] st σ τ = am_run d 26 23 [v0, v1, .int x] (.int x :: st) σ τ := rr_iload_n dX5_search_22 rfl
theorem r26_23 (d : Nat) (ls st : List Value) (σ : am_St) (τ : Int64) (k : Nat) (a0 : Int32) (hk : am_kc k = 5) (hc : am_cats st ≤ 8) : am_run (d + 1) 26 23 ls (.int a0 :: .ref k :: st) σ τ = (am_call d 28 [.ref k, .int a0] σ τ).bind (fun r => am_run (d + 1) 26 26 ls (r.1.toList ++ st) r.2.1 r.2.2) := rr_invv [.int a0] dX5_search_23 (by decide +kernel) (by decide) rfl (Nat.le_of_ble_eq_true rfl) hk hc
theorem r26_26 (d : Nat) (st : List Value) (σ : am_St) (τ : Int64) (x : Nat) (v1 v2 : Value) : am_run d 26 26 [.ref x, v1, v2] st σ τ = am_run d 26 27 [.ref x, v1, v2] (.ref x :: st) σ τ := rr_aload_n dX5_search_26 rfl
theorem r26_27 (d : Nat) (ls st : List Value) (σ : am_St) (τ : Int64) (k : Nat) : am_run d 26 27 ls (.ref k :: st) σ τ = am_gf k 5 4 σ τ (fun v => am_run d 26 30 ls (v :: st) σ τ) := rr_getf dX5_search_27 (by decide +kernel)
theorem r26_30 (d : Nat) (st : List Value) (σ : am_St) (τ : Int64) (x : Nat) (v1 v2 : Value) : am_run d 26 30 [.ref x, v1, v2] st σ τ = am_run d 26 31 [.ref x, v1, v2] (.ref x :: st) σ τ := rr_aload_n dX5_search_30 rfl
theorem r26_31 (d : Nat) (ls st : List Value) (σ : am_St) (τ : Int64) (k : Nat) : am_run d 26 31 ls (.ref k :: st) σ τ = am_gf k 5 3 σ τ (fun v => am_run d 26 34 ls (v :: st) σ τ) := rr_getf dX5_search_31 (by decide +kernel)
theorem r26_34 (d : Nat) (ls st : List Value) (σ : am_St) (τ : Int64) (k : Nat) : am_run d 26 34 ls (.ref k :: st) σ τ = am_gf k 1 3 σ τ (fun v => am_run d 26 37 ls (v :: st) σ τ) := rr_getf dX5_search_34 (by decide +kernel)
theorem r26_37 (d : Nat) (st : List Value) (σ : am_St) (τ : Int64) (x : Nat) (v1 v2 : Value) : am_run d 26 37 [.ref x, v1, v2] st σ τ = am_run d 26 38 [.ref x, v1, v2] (.ref x :: st) σ τ := rr_aload_n dX5_search_37 rfl
theorem r26_38 (d : Nat) (ls st : List Value) (σ : am_St) (τ : Int64) (k : Nat) : am_run d 26 38 ls (.ref k :: st) σ τ = am_gf k 5 3 σ τ (fun v => am_run d 26 41 ls (v :: st) σ τ) := rr_getf dX5_search_38 (by decide +kernel)
theorem r26_41 (d : Nat) (ls st : List Value) (σ : am_St) (τ : Int64) (k : Nat) : am_run d 26 41 ls (.ref k :: st) σ τ = am_gf k 1 7 σ τ (fun v => am_run d 26 44 ls (v :: st) σ τ) := rr_getf dX5_search_41 (by decide +kernel)
theorem r26_44 (d : Nat) (st : List Value) (σ : am_St) (τ : Int64) (x : Nat) (v1 v2 : Value) : am_run d 26 44 [.ref x, v1, v2] st σ τ = am_run d 26 45 [.ref x, v1, v2] (.ref x :: st) σ τ := rr_aload_n dX5_search_44 rfl
theorem r26_45 (d : Nat) (ls st : List Value) (σ : am_St) (τ : Int64) (k : Nat) : am_run d 26 45 ls (.ref k :: st) σ τ = am_gf k 5 2 σ τ (fun v => am_run d 26 48 ls (v :: st) σ τ) := rr_getf dX5_search_45 (by decide +kernel)
theorem r26_48 (d : Nat) (ls st : List Value) (σ : am_St) (τ : Int64) (k : Nat) (a0 : Nat) (a1 : Nat) (a2 : Nat) (hk : am_kc k = 7) (hc : am_cats st ≤ 8) : am_run (d + 1) 26 48 ls (.ref a2 :: .ref a1 :: .ref a0 :: .ref k :: st) σ τ = (am_call d 35 [.ref k, .ref a0, .ref a1, .ref a2] σ τ).bind (fun r => am_run (d + 1) 26 51 ls (r.1.toList ++ st) r.2.1 r.2.2) := rr_invv [.ref a0, .ref a1, .ref a2] dX5_search_48 (by decide +kernel) (by decide) rfl (Nat.le_of_ble_eq_true rfl) hk hc
theorem r26_51 (d : Nat) (st : List Value) (σ : am_St) (τ : Int64) (x : Nat) (v1 v2 : Value) : am_run d 26 51 [.ref x, v1, v2] st σ τ = am_run d 26 52 [.ref x, v1, v2] (.ref x :: st) σ τ := rr_aload_n dX5_search_51 rfl
theorem r26_52 (d : Nat) (ls st : List Value) (σ : am_St) (τ : Int64) (k : Nat) : am_run d 26 52 ls (.ref k :: st) σ τ = am_gf k 5 4 σ τ (fun v => am_run d 26 55 ls (v :: st) σ τ) := rr_getf dX5_search_52 (by decide +kernel)
theorem r26_55 (d : Nat) (ls st : List Value) (σ : am_St) (τ : Int64) (k : Nat)  (hk : am_kc k = 7) (hc : am_cats st ≤ 8) : am_run (d + 1) 26 55 ls (.ref k :: st) σ τ = (am_call d 43 [.ref k] σ τ).bind (fun r => am_run (d + 1) 26 58 ls (r.1.toList ++ st) r.2.1 r.2.2) := rr_invv [] dX5_search_55 (by decide +kernel) (by decide) rfl (Nat.le_of_ble_eq_true rfl) hk hc
theorem r26_58 (d : Nat) (ls st : List Value) (σ : am_St) (τ : Int64) : am_run d 26 58 ls st σ τ = am_run d 26 59 ls (.int (-1) :: st) σ τ := rr_iconst (-1) dX5_search_58 (by decide)
theorem r26_59 (d : Nat) (ls st : List Value) (σ : am_St) (τ : Int64) (x y : Int32) : am_run d 26 59 ls (.int y :: .int x :: st) σ τ = if x = y then am_run d 26 62 ls st σ τ else am_run d 26 66 ls st σ τ := (rr_icmp 66 dX5_search_59 (by decide)).trans am_seln
theorem r26_62 (d : Nat) (st : List Value) (σ : am_St) (τ : Int64) (x : Nat) (v1 v2 : Value) : am_run d 26 62 [.ref x, v1, v2] st σ τ = am_run d 26 63 [.ref x, v1, v2] (.ref x :: st) σ τ := rr_aload_n dX5_search_62 rfl
theorem r26_63 (d : Nat) (ls st : List Value) (σ : am_St) (τ : Int64) (k : Nat)  (hk : am_kc k = 5) (hc : am_cats st ≤ 8) : am_run (d + 1) 26 63 ls (.ref k :: st) σ τ = (am_call d 29 [.ref k] σ τ).bind (fun r => am_run (d + 1) 26 66 ls (r.1.toList ++ st) r.2.1 r.2.2) := rr_invv [] dX5_search_63 (by decide +kernel) (by decide) rfl (Nat.le_of_ble_eq_true rfl) hk hc
theorem r26_66 (d : Nat) (st : List Value) (σ : am_St) (τ : Int64) (x : Int32) (v0 v1 : Value) : am_run d 26 66 [v0, v1, .int x] st σ τ = am_run d 26 69 [v0, am_nl v1, .int (x + 1)] st σ τ := rr_iinc 1 _ dX5_search_66 rfl (by decide) (by decide) (by first | rfl | (by_cases h : v1.category = 2 <;> simp [am_set1, am_nl, h]))
theorem r26_69 (d : Nat) (ls st : List Value) (σ : am_St) (τ : Int64) : am_run d 26 69 ls st σ τ = am_run d 26 15 ls st σ τ := rr_goto 15 dX5_search_69 (by decide)
theorem r26_72 (d : Nat) (ls : List Value) (σ : am_St) (τ : Int64) : am_run d 26 72 ls [] σ τ = some (none, σ, τ) := rr_vret dX5_search_72 rfl
theorem dX5_tells_0 : decode (am_code 27) 0 = .ok (.iload_n 1, 1) := by decide +kernel
theorem dX5_tells_1 : decode (am_code 27) 1 = .ok (.ifCond .eq 12, 3) := by decide +kernel
theorem dX5_tells_4 : decode (am_code 27) 4 = .ok (.aload_n 0, 1) := by decide +kernel
theorem dX5_tells_5 : decode (am_code 27) 5 = .ok (.getfield 31, 3) := by decide +kernel
theorem dX5_tells_8 : decode (am_code 27) 8 = .ok (.ifCond .ne 5, 3) := by decide +kernel
theorem dX5_tells_11 : decode (am_code 27) 11 = .ok (.iconst (-1), 1) := by decide +kernel
theorem dX5_tells_12 : decode (am_code 27) 12 = .ok (.ireturn, 1) := by decide +kernel
theorem dX5_tells_13 : decode (am_code 27) 13 = .ok (.iload_n 1, 1) := by decide +kernel
theorem dX5_tells_14 : decode (am_code 27) 14 = .ok (.tableswitch 47 0 2 #[26, 31, 39], 26) := by decide +kernel
theorem dX5_tells_40 : decode (am_code 27) 40 = .ok (.aload_n 0, 1) := by decide +kernel
theorem dX5_tells_41 : decode (am_code 27) 41 = .ok (.getfield 31, 3) := by decide +kernel
theorem dX5_tells_44 : decode (am_code 27) 44 = .ok (.ireturn, 1) := by decide +kernel
theorem dX5_tells_45 : decode (am_code 27) 45 = .ok (.aload_n 0, 1) := by decide +kernel
theorem dX5_tells_46 : decode (am_code 27) 46 = .ok (.getfield 14, 3) := by decide +kernel
theorem dX5_tells_49 : decode (am_code 27) 49 = .ok (.getfield 64, 3) := by decide +kernel
theorem dX5_tells_52 : decode (am_code 27) 52 = .ok (.ireturn, 1) := by decide +kernel
theorem dX5_tells_53 : decode (am_code 27) 53 = .ok (.aload_n 0, 1) := by decide +kernel
theorem dX5_tells_54 : decode (am_code 27) 54 = .ok (.getfield 14, 3) := by decide +kernel
theorem dX5_tells_57 : decode (am_code 27) 57 = .ok (.getfield 67, 3) := by decide +kernel
theorem dX5_tells_60 : decode (am_code 27) 60 = .ok (.ireturn, 1) := by decide +kernel
theorem dX5_tells_61 : decode (am_code 27) 61 = .ok (.aload_n 0, 1) := by decide +kernel
theorem dX5_tells_62 : decode (am_code 27) 62 = .ok (.getfield 14, 3) := by decide +kernel
theorem dX5_tells_65 : decode (am_code 27) 65 = .ok (.getfield 70, 3) := by decide +kernel
theorem dX5_tells_68 : decode (am_code 27) 68 = .ok (.ireturn, 1) := by decide +kernel
theorem r27_0 (d : Nat) (st : List Value) (σ : am_St) (τ : Int64) (x : Int32) (v0 : Value) : am_run d 27 0 [v0, .int x] st σ τ = am_run d 27 1 [v0, .int x] (.int x :: st) σ τ := rr_iload_n dX5_tells_0 rfl
theorem r27_1 (d : Nat) (ls st : List Value) (σ : am_St) (τ : Int64) (x : Int32) : am_run d 27 1 ls (.int x :: st) σ τ = if x = 0 then am_run d 27 13 ls st σ τ else am_run d 27 4 ls st σ τ := (rr_if 13 dX5_tells_1 (by decide)).trans am_sel
theorem r27_4 (d : Nat) (st : List Value) (σ : am_St) (τ : Int64) (x : Nat) (v1 : Value) : am_run d 27 4 [.ref x, v1] st σ τ = am_run d 27 5 [.ref x, v1] (.ref x :: st) σ τ := rr_aload_n dX5_tells_4 rfl
theorem r27_5 (d : Nat) (ls st : List Value) (σ : am_St) (τ : Int64) (k : Nat) : am_run d 27 5 ls (.ref k :: st) σ τ = am_gf k 5 0 σ τ (fun v => am_run d 27 8 ls (v :: st) σ τ) := rr_getf dX5_tells_5 (by decide +kernel)
theorem r27_8 (d : Nat) (ls st : List Value) (σ : am_St) (τ : Int64) (x : Int32) : am_run d 27 8 ls (.int x :: st) σ τ = if x = 0 then am_run d 27 11 ls st σ τ else am_run d 27 13 ls st σ τ := (rr_if 13 dX5_tells_8 (by decide)).trans am_seln
theorem r27_11 (d : Nat) (ls st : List Value) (σ : am_St) (τ : Int64) : am_run d 27 11 ls st σ τ = am_run d 27 12 ls (.int (-1) :: st) σ τ := rr_iconst (-1) dX5_tells_11 (by decide)
theorem r27_12 (d : Nat) (ls : List Value) (σ : am_St) (τ : Int64) (x : Int32) : am_run d 27 12 ls [.int x] σ τ = some (some (.int x), σ, τ) := rr_iret dX5_tells_12 rfl
theorem r27_13 (d : Nat) (st : List Value) (σ : am_St) (τ : Int64) (x : Int32) (v0 : Value) : am_run d 27 13 [v0, .int x] st σ τ = am_run d 27 14 [v0, .int x] (.int x :: st) σ τ := rr_iload_n dX5_tells_13 rfl
theorem r27_14 (d : Nat) (ls st : List Value) (σ : am_St) (τ : Int64) (x : Int32) : am_run d 27 14 ls (.int x :: st) σ τ = am_run d 27 (am_sw x 0 [40, 45, 53] 61) ls st σ τ := rr_tsw [40, 45, 53] 61 dX5_tells_14 (by decide) (by decide) (by decide)
theorem r27_40 (d : Nat) (st : List Value) (σ : am_St) (τ : Int64) (x : Nat) (v1 : Value) : am_run d 27 40 [.ref x, v1] st σ τ = am_run d 27 41 [.ref x, v1] (.ref x :: st) σ τ := rr_aload_n dX5_tells_40 rfl
theorem r27_41 (d : Nat) (ls st : List Value) (σ : am_St) (τ : Int64) (k : Nat) : am_run d 27 41 ls (.ref k :: st) σ τ = am_gf k 5 0 σ τ (fun v => am_run d 27 44 ls (v :: st) σ τ) := rr_getf dX5_tells_41 (by decide +kernel)
theorem r27_44 (d : Nat) (ls : List Value) (σ : am_St) (τ : Int64) (x : Int32) : am_run d 27 44 ls [.int x] σ τ = some (some (.int x), σ, τ) := rr_iret dX5_tells_44 rfl
theorem r27_45 (d : Nat) (st : List Value) (σ : am_St) (τ : Int64) (x : Nat) (v1 : Value) : am_run d 27 45 [.ref x, v1] st σ τ = am_run d 27 46 [.ref x, v1] (.ref x :: st) σ τ := rr_aload_n dX5_tells_45 rfl
theorem r27_46 (d : Nat) (ls st : List Value) (σ : am_St) (τ : Int64) (k : Nat) : am_run d 27 46 ls (.ref k :: st) σ τ = am_gf k 5 1 σ τ (fun v => am_run d 27 49 ls (v :: st) σ τ) := rr_getf dX5_tells_46 (by decide +kernel)
theorem r27_49 (d : Nat) (ls st : List Value) (σ : am_St) (τ : Int64) (k : Nat) : am_run d 27 49 ls (.ref k :: st) σ τ = am_gf k 4 0 σ τ (fun v => am_run d 27 52 ls (v :: st) σ τ) := rr_getf dX5_tells_49 (by decide +kernel)
theorem r27_52 (d : Nat) (ls : List Value) (σ : am_St) (τ : Int64) (x : Int32) : am_run d 27 52 ls [.int x] σ τ = some (some (.int x), σ, τ) := rr_iret dX5_tells_52 rfl
theorem r27_53 (d : Nat) (st : List Value) (σ : am_St) (τ : Int64) (x : Nat) (v1 : Value) : am_run d 27 53 [.ref x, v1] st σ τ = am_run d 27 54 [.ref x, v1] (.ref x :: st) σ τ := rr_aload_n dX5_tells_53 rfl
theorem r27_54 (d : Nat) (ls st : List Value) (σ : am_St) (τ : Int64) (k : Nat) : am_run d 27 54 ls (.ref k :: st) σ τ = am_gf k 5 1 σ τ (fun v => am_run d 27 57 ls (v :: st) σ τ) := rr_getf dX5_tells_54 (by decide +kernel)
theorem r27_57 (d : Nat) (ls st : List Value) (σ : am_St) (τ : Int64) (k : Nat) : am_run d 27 57 ls (.ref k :: st) σ τ = am_gf k 4 1 σ τ (fun v => am_run d 27 60 ls (v :: st) σ τ) := rr_getf dX5_tells_57 (by decide +kernel)
theorem r27_60 (d : Nat) (ls : List Value) (σ : am_St) (τ : Int64) (x : Int32) : am_run d 27 60 ls [.int x] σ τ = some (some (.int x), σ, τ) := rr_iret dX5_tells_60 rfl
theorem r27_61 (d : Nat) (st : List Value) (σ : am_St) (τ : Int64) (x : Nat) (v1 : Value) : am_run d 27 61 [.ref x, v1] st σ τ = am_run d 27 62 [.ref x, v1] (.ref x :: st) σ τ := rr_aload_n dX5_tells_61 rfl
theorem r27_62 (d : Nat) (ls st : List Value) (σ : am_St) (τ : Int64) (k : Nat) : am_run d 27 62 ls (.ref k :: st) σ τ = am_gf k 5 1 σ τ (fun v => am_run d 27 65 ls (v :: st) σ τ) := rr_getf dX5_tells_62 (by decide +kernel)
theorem r27_65 (d : Nat) (ls st : List Value) (σ : am_St) (τ : Int64) (k : Nat) : am_run d 27 65 ls (.ref k :: st) σ τ = am_gf k 4 2 σ τ (fun v => am_run d 27 68 ls (v :: st) σ τ) := rr_getf dX5_tells_65 (by decide +kernel)
theorem r27_68 (d : Nat) (ls : List Value) (σ : am_St) (τ : Int64) (x : Int32) : am_run d 27 68 ls [.int x] σ τ = some (some (.int x), σ, τ) := rr_iret dX5_tells_68 rfl
theorem dX5_setTried_0 : decode (am_code 28) 0 = .ok (.iload_n 1, 1) := by decide +kernel
theorem dX5_setTried_1 : decode (am_code 28) 1 = .ok (.iconst 4, 1) := by decide +kernel
theorem dX5_setTried_2 : decode (am_code 28) 2 = .ok (.if_icmp .ge 30, 3) := by decide +kernel
theorem dX5_setTried_5 : decode (am_code 28) 5 = .ok (.aload_n 0, 1) := by decide +kernel
theorem dX5_setTried_6 : decode (am_code 28) 6 = .ok (.getfield 20, 3) := by decide +kernel
theorem dX5_setTried_9 : decode (am_code 28) 9 = .ok (.iload_n 1, 1) := by decide +kernel
theorem dX5_setTried_10 : decode (am_code 28) 10 = .ok (.putfield 64, 3) := by decide +kernel
theorem dX5_setTried_13 : decode (am_code 28) 13 = .ok (.aload_n 0, 1) := by decide +kernel
theorem dX5_setTried_14 : decode (am_code 28) 14 = .ok (.getfield 20, 3) := by decide +kernel
theorem dX5_setTried_17 : decode (am_code 28) 17 = .ok (.iconst 0, 1) := by decide +kernel
theorem dX5_setTried_18 : decode (am_code 28) 18 = .ok (.putfield 67, 3) := by decide +kernel
theorem dX5_setTried_21 : decode (am_code 28) 21 = .ok (.aload_n 0, 1) := by decide +kernel
theorem dX5_setTried_22 : decode (am_code 28) 22 = .ok (.getfield 20, 3) := by decide +kernel
theorem dX5_setTried_25 : decode (am_code 28) 25 = .ok (.iconst (-1), 1) := by decide +kernel
theorem dX5_setTried_26 : decode (am_code 28) 26 = .ok (.putfield 70, 3) := by decide +kernel
theorem dX5_setTried_29 : decode (am_code 28) 29 = .ok (.goto 42, 3) := by decide +kernel
theorem dX5_setTried_32 : decode (am_code 28) 32 = .ok (.iload_n 1, 1) := by decide +kernel
theorem dX5_setTried_33 : decode (am_code 28) 33 = .ok (.iconst 4, 1) := by decide +kernel
theorem dX5_setTried_34 : decode (am_code 28) 34 = .ok (.isub, 1) := by decide +kernel
theorem dX5_setTried_35 : decode (am_code 28) 35 = .ok (.istore_n 2, 1) := by decide +kernel
theorem dX5_setTried_36 : decode (am_code 28) 36 = .ok (.aload_n 0, 1) := by decide +kernel
theorem dX5_setTried_37 : decode (am_code 28) 37 = .ok (.getfield 20, 3) := by decide +kernel
theorem dX5_setTried_40 : decode (am_code 28) 40 = .ok (.iload_n 2, 1) := by decide +kernel
theorem dX5_setTried_41 : decode (am_code 28) 41 = .ok (.bipush 16, 2) := by decide +kernel
theorem dX5_setTried_43 : decode (am_code 28) 43 = .ok (.idiv, 1) := by decide +kernel
theorem dX5_setTried_44 : decode (am_code 28) 44 = .ok (.putfield 64, 3) := by decide +kernel
theorem dX5_setTried_47 : decode (am_code 28) 47 = .ok (.aload_n 0, 1) := by decide +kernel
theorem dX5_setTried_48 : decode (am_code 28) 48 = .ok (.getfield 20, 3) := by decide +kernel
theorem dX5_setTried_51 : decode (am_code 28) 51 = .ok (.iconst 2, 1) := by decide +kernel
theorem dX5_setTried_52 : decode (am_code 28) 52 = .ok (.iload_n 2, 1) := by decide +kernel
theorem dX5_setTried_53 : decode (am_code 28) 53 = .ok (.iconst 4, 1) := by decide +kernel
theorem dX5_setTried_54 : decode (am_code 28) 54 = .ok (.idiv, 1) := by decide +kernel
theorem dX5_setTried_55 : decode (am_code 28) 55 = .ok (.iconst 4, 1) := by decide +kernel
theorem dX5_setTried_56 : decode (am_code 28) 56 = .ok (.irem, 1) := by decide +kernel
theorem dX5_setTried_57 : decode (am_code 28) 57 = .ok (.iadd, 1) := by decide +kernel
theorem dX5_setTried_58 : decode (am_code 28) 58 = .ok (.putfield 67, 3) := by decide +kernel
theorem dX5_setTried_61 : decode (am_code 28) 61 = .ok (.aload_n 0, 1) := by decide +kernel
theorem dX5_setTried_62 : decode (am_code 28) 62 = .ok (.getfield 20, 3) := by decide +kernel
theorem dX5_setTried_65 : decode (am_code 28) 65 = .ok (.iload_n 2, 1) := by decide +kernel
theorem dX5_setTried_66 : decode (am_code 28) 66 = .ok (.iconst 4, 1) := by decide +kernel
theorem dX5_setTried_67 : decode (am_code 28) 67 = .ok (.irem, 1) := by decide +kernel
theorem dX5_setTried_68 : decode (am_code 28) 68 = .ok (.putfield 70, 3) := by decide +kernel
theorem dX5_setTried_71 : decode (am_code 28) 71 = .ok (.return_, 1) := by decide +kernel
theorem r28_0 (d : Nat) (st : List Value) (σ : am_St) (τ : Int64) (x : Int32) (v0 v2 : Value) : am_run d 28 0 [v0, .int x, v2] st σ τ = am_run d 28 1 [v0, .int x, v2] (.int x :: st) σ τ := rr_iload_n dX5_setTried_0 rfl
theorem r28_1 (d : Nat) (ls st : List Value) (σ : am_St) (τ : Int64) : am_run d 28 1 ls st σ τ = am_run d 28 2 ls (.int 4 :: st) σ τ := rr_iconst 4 dX5_setTried_1 (by decide)
theorem r28_2 (d : Nat) (ls st : List Value) (σ : am_St) (τ : Int64) (x y : Int32) : am_run d 28 2 ls (.int y :: .int x :: st) σ τ = if y ≤ x then am_run d 28 32 ls st σ τ else am_run d 28 5 ls st σ τ := (rr_icmp 32 dX5_setTried_2 (by decide)).trans am_sel
theorem r28_5 (d : Nat) (st : List Value) (σ : am_St) (τ : Int64) (x : Nat) (v1 v2 : Value) : am_run d 28 5 [.ref x, v1, v2] st σ τ = am_run d 28 6 [.ref x, v1, v2] (.ref x :: st) σ τ := rr_aload_n dX5_setTried_5 rfl
theorem r28_6 (d : Nat) (ls st : List Value) (σ : am_St) (τ : Int64) (k : Nat) : am_run d 28 6 ls (.ref k :: st) σ τ = am_gf k 5 2 σ τ (fun v => am_run d 28 9 ls (v :: st) σ τ) := rr_getf dX5_setTried_6 (by decide +kernel)
theorem r28_9 (d : Nat) (st : List Value) (σ : am_St) (τ : Int64) (x : Int32) (v0 v2 : Value) : am_run d 28 9 [v0, .int x, v2] st σ τ = am_run d 28 10 [v0, .int x, v2] (.int x :: st) σ τ := rr_iload_n dX5_setTried_9 rfl
theorem r28_10 (d : Nat) (ls st : List Value) (σ : am_St) (τ : Int64) (k : Nat) (x : Int32) : am_run d 28 10 ls (.int x :: .ref k :: st) σ τ = am_pf k 4 0 x σ (fun σ => am_run d 28 13 ls st σ τ) := rr_putf dX5_setTried_10 (by decide +kernel)
theorem r28_13 (d : Nat) (st : List Value) (σ : am_St) (τ : Int64) (x : Nat) (v1 v2 : Value) : am_run d 28 13 [.ref x, v1, v2] st σ τ = am_run d 28 14 [.ref x, v1, v2] (.ref x :: st) σ τ := rr_aload_n dX5_setTried_13 rfl
theorem r28_14 (d : Nat) (ls st : List Value) (σ : am_St) (τ : Int64) (k : Nat) : am_run d 28 14 ls (.ref k :: st) σ τ = am_gf k 5 2 σ τ (fun v => am_run d 28 17 ls (v :: st) σ τ) := rr_getf dX5_setTried_14 (by decide +kernel)
theorem r28_17 (d : Nat) (ls st : List Value) (σ : am_St) (τ : Int64) : am_run d 28 17 ls st σ τ = am_run d 28 18 ls (.int 0 :: st) σ τ := rr_iconst 0 dX5_setTried_17 (by decide)
theorem r28_18 (d : Nat) (ls st : List Value) (σ : am_St) (τ : Int64) (k : Nat) (x : Int32) : am_run d 28 18 ls (.int x :: .ref k :: st) σ τ = am_pf k 4 1 x σ (fun σ => am_run d 28 21 ls st σ τ) := rr_putf dX5_setTried_18 (by decide +kernel)
theorem r28_21 (d : Nat) (st : List Value) (σ : am_St) (τ : Int64) (x : Nat) (v1 v2 : Value) : am_run d 28 21 [.ref x, v1, v2] st σ τ = am_run d 28 22 [.ref x, v1, v2] (.ref x :: st) σ τ := rr_aload_n dX5_setTried_21 rfl
theorem r28_22 (d : Nat) (ls st : List Value) (σ : am_St) (τ : Int64) (k : Nat) : am_run d 28 22 ls (.ref k :: st) σ τ = am_gf k 5 2 σ τ (fun v => am_run d 28 25 ls (v :: st) σ τ) := rr_getf dX5_setTried_22 (by decide +kernel)
theorem r28_25 (d : Nat) (ls st : List Value) (σ : am_St) (τ : Int64) : am_run d 28 25 ls st σ τ = am_run d 28 26 ls (.int (-1) :: st) σ τ := rr_iconst (-1) dX5_setTried_25 (by decide)
theorem r28_26 (d : Nat) (ls st : List Value) (σ : am_St) (τ : Int64) (k : Nat) (x : Int32) : am_run d 28 26 ls (.int x :: .ref k :: st) σ τ = am_pf k 4 2 x σ (fun σ => am_run d 28 29 ls st σ τ) := rr_putf dX5_setTried_26 (by decide +kernel)
theorem r28_29 (d : Nat) (ls st : List Value) (σ : am_St) (τ : Int64) : am_run d 28 29 ls st σ τ = am_run d 28 71 ls st σ τ := rr_goto 71 dX5_setTried_29 (by decide)
theorem r28_32 (d : Nat) (st : List Value) (σ : am_St) (τ : Int64) (x : Int32) (v0 v2 : Value) : am_run d 28 32 [v0, .int x, v2] st σ τ = am_run d 28 33 [v0, .int x, v2] (.int x :: st) σ τ := rr_iload_n dX5_setTried_32 rfl
theorem r28_33 (d : Nat) (ls st : List Value) (σ : am_St) (τ : Int64) : am_run d 28 33 ls st σ τ = am_run d 28 34 ls (.int 4 :: st) σ τ := rr_iconst 4 dX5_setTried_33 (by decide)
theorem r28_34 (d : Nat) (ls st : List Value) (σ : am_St) (τ : Int64) (x y : Int32) : am_run d 28 34 ls (.int y :: .int x :: st) σ τ = am_run d 28 35 ls (.int (x - y) :: st) σ τ := rr_isub dX5_setTried_34
theorem r28_35 (d : Nat) (st : List Value) (σ : am_St) (τ : Int64) (x : Int32) (v0 v1 v2 : Value) : am_run d 28 35 [v0, v1, v2] (.int x :: st) σ τ = am_run d 28 36 [v0, am_nl v1, .int x] st σ τ := rr_istore_n _ dX5_setTried_35 (by decide) (by first | rfl | (by_cases h : v1.category = 2 <;> simp [am_set1, am_nl, h]))
theorem r28_36 (d : Nat) (st : List Value) (σ : am_St) (τ : Int64) (x : Nat) (v1 v2 : Value) : am_run d 28 36 [.ref x, v1, v2] st σ τ = am_run d 28 37 [.ref x, v1, v2] (.ref x :: st) σ τ := rr_aload_n dX5_setTried_36 rfl
theorem r28_37 (d : Nat) (ls st : List Value) (σ : am_St) (τ : Int64) (k : Nat) : am_run d 28 37 ls (.ref k :: st) σ τ = am_gf k 5 2 σ τ (fun v => am_run d 28 40 ls (v :: st) σ τ) := rr_getf dX5_setTried_37 (by decide +kernel)
theorem r28_40 (d : Nat) (st : List Value) (σ : am_St) (τ : Int64) (x : Int32) (v0 v1 : Value) : am_run d 28 40 [v0, v1, .int x] st σ τ = am_run d 28 41 [v0, v1, .int x] (.int x :: st) σ τ := rr_iload_n dX5_setTried_40 rfl
theorem r28_41 (d : Nat) (ls st : List Value) (σ : am_St) (τ : Int64) : am_run d 28 41 ls st σ τ = am_run d 28 43 ls (.int 16 :: st) σ τ := rr_bipush 16 dX5_setTried_41 (by decide)
theorem r28_43 (d : Nat) (ls st : List Value) (σ : am_St) (τ : Int64) (x y : Int32) : am_run d 28 43 ls (.int y :: .int x :: st) σ τ = if y = 0 then none else am_run d 28 44 ls (.int (x / y) :: st) σ τ := rr_idiv dX5_setTried_43
theorem r28_44 (d : Nat) (ls st : List Value) (σ : am_St) (τ : Int64) (k : Nat) (x : Int32) : am_run d 28 44 ls (.int x :: .ref k :: st) σ τ = am_pf k 4 0 x σ (fun σ => am_run d 28 47 ls st σ τ) := rr_putf dX5_setTried_44 (by decide +kernel)
theorem r28_47 (d : Nat) (st : List Value) (σ : am_St) (τ : Int64) (x : Nat) (v1 v2 : Value) : am_run d 28 47 [.ref x, v1, v2] st σ τ = am_run d 28 48 [.ref x, v1, v2] (.ref x :: st) σ τ := rr_aload_n dX5_setTried_47 rfl
theorem r28_48 (d : Nat) (ls st : List Value) (σ : am_St) (τ : Int64) (k : Nat) : am_run d 28 48 ls (.ref k :: st) σ τ = am_gf k 5 2 σ τ (fun v => am_run d 28 51 ls (v :: st) σ τ) := rr_getf dX5_setTried_48 (by decide +kernel)
theorem r28_51 (d : Nat) (ls st : List Value) (σ : am_St) (τ : Int64) : am_run d 28 51 ls st σ τ = am_run d 28 52 ls (.int 2 :: st) σ τ := rr_iconst 2 dX5_setTried_51 (by decide)
theorem r28_52 (d : Nat) (st : List Value) (σ : am_St) (τ : Int64) (x : Int32) (v0 v1 : Value) : am_run d 28 52 [v0, v1, .int x] st σ τ = am_run d 28 53 [v0, v1, .int x] (.int x :: st) σ τ := rr_iload_n dX5_setTried_52 rfl
theorem r28_53 (d : Nat) (ls st : List Value) (σ : am_St) (τ : Int64) : am_run d 28 53 ls st σ τ = am_run d 28 54 ls (.int 4 :: st) σ τ := rr_iconst 4 dX5_setTried_53 (by decide)
theorem r28_54 (d : Nat) (ls st : List Value) (σ : am_St) (τ : Int64) (x y : Int32) : am_run d 28 54 ls (.int y :: .int x :: st) σ τ = if y = 0 then none else am_run d 28 55 ls (.int (x / y) :: st) σ τ := rr_idiv dX5_setTried_54
theorem r28_55 (d : Nat) (ls st : List Value) (σ : am_St) (τ : Int64) : am_run d 28 55 ls st σ τ = am_run d 28 56 ls (.int 4 :: st) σ τ := rr_iconst 4 dX5_setTried_55 (by decide)
theorem r28_56 (d : Nat) (ls st : List Value) (σ : am_St) (τ : Int64) (x y : Int32) : am_run d 28 56 ls (.int y :: .int x :: st) σ τ = if y = 0 then none else am_run d 28 57 ls (.int (x - x / y * y) :: st) σ τ := rr_irem dX5_setTried_56
theorem r28_57 (d : Nat) (ls st : List Value) (σ : am_St) (τ : Int64) (x y : Int32) : am_run d 28 57 ls (.int y :: .int x :: st) σ τ = am_run d 28 58 ls (.int (x + y) :: st) σ τ := rr_iadd dX5_setTried_57
theorem r28_58 (d : Nat) (ls st : List Value) (σ : am_St) (τ : Int64) (k : Nat) (x : Int32) : am_run d 28 58 ls (.int x :: .ref k :: st) σ τ = am_pf k 4 1 x σ (fun σ => am_run d 28 61 ls st σ τ) := rr_putf dX5_setTried_58 (by decide +kernel)
theorem r28_61 (d : Nat) (st : List Value) (σ : am_St) (τ : Int64) (x : Nat) (v1 v2 : Value) : am_run d 28 61 [.ref x, v1, v2] st σ τ = am_run d 28 62 [.ref x, v1, v2] (.ref x :: st) σ τ := rr_aload_n dX5_setTried_61 rfl
theorem r28_62 (d : Nat) (ls st : List Value) (σ : am_St) (τ : Int64) (k : Nat) : am_run d 28 62 ls (.ref k :: st) σ τ = am_gf k 5 2 σ τ (fun v => am_run d 28 65 ls (v :: st) σ τ) := rr_getf dX5_setTried_62 (by decide +kernel)
theorem r28_65 (d : Nat) (st : List Value) (σ : am_St) (τ : Int64) (x : Int32) (v0 v1 : Value) : am_run d 28 65 [v0, v1, .int x] st σ τ = am_run d 28 66 [v0, v1, .int x] (.int x :: st) σ τ := rr_iload_n dX5_setTried_65 rfl
theorem r28_66 (d : Nat) (ls st : List Value) (σ : am_St) (τ : Int64) : am_run d 28 66 ls st σ τ = am_run d 28 67 ls (.int 4 :: st) σ τ := rr_iconst 4 dX5_setTried_66 (by decide)
theorem r28_67 (d : Nat) (ls st : List Value) (σ : am_St) (τ : Int64) (x y : Int32) : am_run d 28 67 ls (.int y :: .int x :: st) σ τ = if y = 0 then none else am_run d 28 68 ls (.int (x - x / y * y) :: st) σ τ := rr_irem dX5_setTried_67
theorem r28_68 (d : Nat) (ls st : List Value) (σ : am_St) (τ : Int64) (k : Nat) (x : Int32) : am_run d 28 68 ls (.int x :: .ref k :: st) σ τ = am_pf k 4 2 x σ (fun σ => am_run d 28 71 ls st σ τ) := rr_putf dX5_setTried_68 (by decide +kernel)
theorem r28_71 (d : Nat) (ls : List Value) (σ : am_St) (τ : Int64) : am_run d 28 71 ls [] σ τ = some (none, σ, τ) := rr_vret dX5_setTried_71 rfl
theorem dX5_noteFit_0 : decode (am_code 29) 0 = .ok (.aload_n 0, 1) := by decide +kernel
theorem dX5_noteFit_1 : decode (am_code 29) 1 = .ok (.getfield 31, 3) := by decide +kernel
theorem dX5_noteFit_4 : decode (am_code 29) 4 = .ok (.ifCond .ne 45, 3) := by decide +kernel
theorem dX5_noteFit_7 : decode (am_code 29) 7 = .ok (.aload_n 0, 1) := by decide +kernel
theorem dX5_noteFit_8 : decode (am_code 29) 8 = .ok (.getfield 14, 3) := by decide +kernel
theorem dX5_noteFit_11 : decode (am_code 29) 11 = .ok (.aload_n 0, 1) := by decide +kernel
theorem dX5_noteFit_12 : decode (am_code 29) 12 = .ok (.getfield 20, 3) := by decide +kernel
theorem dX5_noteFit_15 : decode (am_code 29) 15 = .ok (.getfield 64, 3) := by decide +kernel
theorem dX5_noteFit_18 : decode (am_code 29) 18 = .ok (.putfield 64, 3) := by decide +kernel
theorem dX5_noteFit_21 : decode (am_code 29) 21 = .ok (.aload_n 0, 1) := by decide +kernel
theorem dX5_noteFit_22 : decode (am_code 29) 22 = .ok (.getfield 14, 3) := by decide +kernel
theorem dX5_noteFit_25 : decode (am_code 29) 25 = .ok (.aload_n 0, 1) := by decide +kernel
theorem dX5_noteFit_26 : decode (am_code 29) 26 = .ok (.getfield 20, 3) := by decide +kernel
theorem dX5_noteFit_29 : decode (am_code 29) 29 = .ok (.getfield 67, 3) := by decide +kernel
theorem dX5_noteFit_32 : decode (am_code 29) 32 = .ok (.putfield 67, 3) := by decide +kernel
theorem dX5_noteFit_35 : decode (am_code 29) 35 = .ok (.aload_n 0, 1) := by decide +kernel
theorem dX5_noteFit_36 : decode (am_code 29) 36 = .ok (.getfield 14, 3) := by decide +kernel
theorem dX5_noteFit_39 : decode (am_code 29) 39 = .ok (.aload_n 0, 1) := by decide +kernel
theorem dX5_noteFit_40 : decode (am_code 29) 40 = .ok (.getfield 20, 3) := by decide +kernel
theorem dX5_noteFit_43 : decode (am_code 29) 43 = .ok (.getfield 70, 3) := by decide +kernel
theorem dX5_noteFit_46 : decode (am_code 29) 46 = .ok (.putfield 70, 3) := by decide +kernel
theorem dX5_noteFit_49 : decode (am_code 29) 49 = .ok (.aload_n 0, 1) := by decide +kernel
theorem dX5_noteFit_50 : decode (am_code 29) 50 = .ok (.dup, 1) := by decide +kernel
theorem dX5_noteFit_51 : decode (am_code 29) 51 = .ok (.getfield 31, 3) := by decide +kernel
theorem dX5_noteFit_54 : decode (am_code 29) 54 = .ok (.iconst 1, 1) := by decide +kernel
theorem dX5_noteFit_55 : decode (am_code 29) 55 = .ok (.iadd, 1) := by decide +kernel
theorem dX5_noteFit_56 : decode (am_code 29) 56 = .ok (.putfield 31, 3) := by decide +kernel
theorem dX5_noteFit_59 : decode (am_code 29) 59 = .ok (.return_, 1) := by decide +kernel
theorem r29_0 (d : Nat) (st : List Value) (σ : am_St) (τ : Int64) (x : Nat) : am_run d 29 0 [.ref x] st σ τ = am_run d 29 1 [.ref x] (.ref x :: st) σ τ := rr_aload_n dX5_noteFit_0 rfl
theorem r29_1 (d : Nat) (ls st : List Value) (σ : am_St) (τ : Int64) (k : Nat) : am_run d 29 1 ls (.ref k :: st) σ τ = am_gf k 5 0 σ τ (fun v => am_run d 29 4 ls (v :: st) σ τ) := rr_getf dX5_noteFit_1 (by decide +kernel)
theorem r29_4 (d : Nat) (ls st : List Value) (σ : am_St) (τ : Int64) (x : Int32) : am_run d 29 4 ls (.int x :: st) σ τ = if x = 0 then am_run d 29 7 ls st σ τ else am_run d 29 49 ls st σ τ := (rr_if 49 dX5_noteFit_4 (by decide)).trans am_seln
theorem r29_7 (d : Nat) (st : List Value) (σ : am_St) (τ : Int64) (x : Nat) : am_run d 29 7 [.ref x] st σ τ = am_run d 29 8 [.ref x] (.ref x :: st) σ τ := rr_aload_n dX5_noteFit_7 rfl
theorem r29_8 (d : Nat) (ls st : List Value) (σ : am_St) (τ : Int64) (k : Nat) : am_run d 29 8 ls (.ref k :: st) σ τ = am_gf k 5 1 σ τ (fun v => am_run d 29 11 ls (v :: st) σ τ) := rr_getf dX5_noteFit_8 (by decide +kernel)
theorem r29_11 (d : Nat) (st : List Value) (σ : am_St) (τ : Int64) (x : Nat) : am_run d 29 11 [.ref x] st σ τ = am_run d 29 12 [.ref x] (.ref x :: st) σ τ := rr_aload_n dX5_noteFit_11 rfl
theorem r29_12 (d : Nat) (ls st : List Value) (σ : am_St) (τ : Int64) (k : Nat) : am_run d 29 12 ls (.ref k :: st) σ τ = am_gf k 5 2 σ τ (fun v => am_run d 29 15 ls (v :: st) σ τ) := rr_getf dX5_noteFit_12 (by decide +kernel)
theorem r29_15 (d : Nat) (ls st : List Value) (σ : am_St) (τ : Int64) (k : Nat) : am_run d 29 15 ls (.ref k :: st) σ τ = am_gf k 4 0 σ τ (fun v => am_run d 29 18 ls (v :: st) σ τ) := rr_getf dX5_noteFit_15 (by decide +kernel)
theorem r29_18 (d : Nat) (ls st : List Value) (σ : am_St) (τ : Int64) (k : Nat) (x : Int32) : am_run d 29 18 ls (.int x :: .ref k :: st) σ τ = am_pf k 4 0 x σ (fun σ => am_run d 29 21 ls st σ τ) := rr_putf dX5_noteFit_18 (by decide +kernel)
theorem r29_21 (d : Nat) (st : List Value) (σ : am_St) (τ : Int64) (x : Nat) : am_run d 29 21 [.ref x] st σ τ = am_run d 29 22 [.ref x] (.ref x :: st) σ τ := rr_aload_n dX5_noteFit_21 rfl
theorem r29_22 (d : Nat) (ls st : List Value) (σ : am_St) (τ : Int64) (k : Nat) : am_run d 29 22 ls (.ref k :: st) σ τ = am_gf k 5 1 σ τ (fun v => am_run d 29 25 ls (v :: st) σ τ) := rr_getf dX5_noteFit_22 (by decide +kernel)
theorem r29_25 (d : Nat) (st : List Value) (σ : am_St) (τ : Int64) (x : Nat) : am_run d 29 25 [.ref x] st σ τ = am_run d 29 26 [.ref x] (.ref x :: st) σ τ := rr_aload_n dX5_noteFit_25 rfl
theorem r29_26 (d : Nat) (ls st : List Value) (σ : am_St) (τ : Int64) (k : Nat) : am_run d 29 26 ls (.ref k :: st) σ τ = am_gf k 5 2 σ τ (fun v => am_run d 29 29 ls (v :: st) σ τ) := rr_getf dX5_noteFit_26 (by decide +kernel)
theorem r29_29 (d : Nat) (ls st : List Value) (σ : am_St) (τ : Int64) (k : Nat) : am_run d 29 29 ls (.ref k :: st) σ τ = am_gf k 4 1 σ τ (fun v => am_run d 29 32 ls (v :: st) σ τ) := rr_getf dX5_noteFit_29 (by decide +kernel)
theorem r29_32 (d : Nat) (ls st : List Value) (σ : am_St) (τ : Int64) (k : Nat) (x : Int32) : am_run d 29 32 ls (.int x :: .ref k :: st) σ τ = am_pf k 4 1 x σ (fun σ => am_run d 29 35 ls st σ τ) := rr_putf dX5_noteFit_32 (by decide +kernel)
theorem r29_35 (d : Nat) (st : List Value) (σ : am_St) (τ : Int64) (x : Nat) : am_run d 29 35 [.ref x] st σ τ = am_run d 29 36 [.ref x] (.ref x :: st) σ τ := rr_aload_n dX5_noteFit_35 rfl
theorem r29_36 (d : Nat) (ls st : List Value) (σ : am_St) (τ : Int64) (k : Nat) : am_run d 29 36 ls (.ref k :: st) σ τ = am_gf k 5 1 σ τ (fun v => am_run d 29 39 ls (v :: st) σ τ) := rr_getf dX5_noteFit_36 (by decide +kernel)
theorem r29_39 (d : Nat) (st : List Value) (σ : am_St) (τ : Int64) (x : Nat) : am_run d 29 39 [.ref x] st σ τ = am_run d 29 40 [.ref x] (.ref x :: st) σ τ := rr_aload_n dX5_noteFit_39 rfl
theorem r29_40 (d : Nat) (ls st : List Value) (σ : am_St) (τ : Int64) (k : Nat) : am_run d 29 40 ls (.ref k :: st) σ τ = am_gf k 5 2 σ τ (fun v => am_run d 29 43 ls (v :: st) σ τ) := rr_getf dX5_noteFit_40 (by decide +kernel)
theorem r29_43 (d : Nat) (ls st : List Value) (σ : am_St) (τ : Int64) (k : Nat) : am_run d 29 43 ls (.ref k :: st) σ τ = am_gf k 4 2 σ τ (fun v => am_run d 29 46 ls (v :: st) σ τ) := rr_getf dX5_noteFit_43 (by decide +kernel)
theorem r29_46 (d : Nat) (ls st : List Value) (σ : am_St) (τ : Int64) (k : Nat) (x : Int32) : am_run d 29 46 ls (.int x :: .ref k :: st) σ τ = am_pf k 4 2 x σ (fun σ => am_run d 29 49 ls st σ τ) := rr_putf dX5_noteFit_46 (by decide +kernel)
theorem r29_49 (d : Nat) (st : List Value) (σ : am_St) (τ : Int64) (x : Nat) : am_run d 29 49 [.ref x] st σ τ = am_run d 29 50 [.ref x] (.ref x :: st) σ τ := rr_aload_n dX5_noteFit_49 rfl
theorem r29_50 (d : Nat) (ls st : List Value) (σ : am_St) (τ : Int64) (x : Nat) : am_run d 29 50 ls (.ref x :: st) σ τ = am_run d 29 51 ls (.ref x :: .ref x :: st) σ τ := rr_dup_r dX5_noteFit_50
theorem r29_50i (d : Nat) (ls st : List Value) (σ : am_St) (τ : Int64) (x : Int32) : am_run d 29 50 ls (.int x :: st) σ τ = am_run d 29 51 ls (.int x :: .int x :: st) σ τ := rr_dup_i dX5_noteFit_50
theorem r29_51 (d : Nat) (ls st : List Value) (σ : am_St) (τ : Int64) (k : Nat) : am_run d 29 51 ls (.ref k :: st) σ τ = am_gf k 5 0 σ τ (fun v => am_run d 29 54 ls (v :: st) σ τ) := rr_getf dX5_noteFit_51 (by decide +kernel)
theorem r29_54 (d : Nat) (ls st : List Value) (σ : am_St) (τ : Int64) : am_run d 29 54 ls st σ τ = am_run d 29 55 ls (.int 1 :: st) σ τ := rr_iconst 1 dX5_noteFit_54 (by decide)
theorem r29_55 (d : Nat) (ls st : List Value) (σ : am_St) (τ : Int64) (x y : Int32) : am_run d 29 55 ls (.int y :: .int x :: st) σ τ = am_run d 29 56 ls (.int (x + y) :: st) σ τ := rr_iadd dX5_noteFit_55
theorem r29_56 (d : Nat) (ls st : List Value) (σ : am_St) (τ : Int64) (k : Nat) (x : Int32) : am_run d 29 56 ls (.int x :: .ref k :: st) σ τ = am_pf k 5 0 x σ (fun σ => am_run d 29 59 ls st σ τ) := rr_putf dX5_noteFit_56 (by decide +kernel)
theorem r29_59 (d : Nat) (ls : List Value) (σ : am_St) (τ : Int64) : am_run d 29 59 ls [] σ τ = some (none, σ, τ) := rr_vret dX5_noteFit_59 rfl
theorem dX0_allowed_0 : decode (am_code 0) 0 = .ok (.aload_n 0, 1) := by decide +kernel
theorem dX0_allowed_1 : decode (am_code 0) 1 = .ok (.getfield 21, 3) := by decide +kernel
theorem dX0_allowed_4 : decode (am_code 0) 4 = .ok (.getfield 29, 3) := by decide +kernel
theorem dX0_allowed_7 : decode (am_code 0) 7 = .ok (.iload_n 1, 1) := by decide +kernel
theorem dX0_allowed_8 : decode (am_code 0) 8 = .ok (.iaload, 1) := by decide +kernel
theorem dX0_allowed_9 : decode (am_code 0) 9 = .ok (.aload_n 0, 1) := by decide +kernel
theorem dX0_allowed_10 : decode (am_code 0) 10 = .ok (.getfield 21, 3) := by decide +kernel
theorem dX0_allowed_13 : decode (am_code 0) 13 = .ok (.getfield 29, 3) := by decide +kernel
theorem dX0_allowed_16 : decode (am_code 0) 16 = .ok (.iload_n 2, 1) := by decide +kernel
theorem dX0_allowed_17 : decode (am_code 0) 17 = .ok (.iaload, 1) := by decide +kernel
theorem dX0_allowed_18 : decode (am_code 0) 18 = .ok (.if_icmp .eq 48, 3) := by decide +kernel
theorem dX0_allowed_21 : decode (am_code 0) 21 = .ok (.aload_n 0, 1) := by decide +kernel
theorem dX0_allowed_22 : decode (am_code 0) 22 = .ok (.getfield 21, 3) := by decide +kernel
theorem dX0_allowed_25 : decode (am_code 0) 25 = .ok (.getfield 34, 3) := by decide +kernel
theorem dX0_allowed_28 : decode (am_code 0) 28 = .ok (.iload_n 1, 1) := by decide +kernel
theorem dX0_allowed_29 : decode (am_code 0) 29 = .ok (.baload, 1) := by decide +kernel
theorem dX0_allowed_30 : decode (am_code 0) 30 = .ok (.ifCond .eq 36, 3) := by decide +kernel
theorem dX0_allowed_33 : decode (am_code 0) 33 = .ok (.aload_n 0, 1) := by decide +kernel
theorem dX0_allowed_34 : decode (am_code 0) 34 = .ok (.getfield 21, 3) := by decide +kernel
theorem dX0_allowed_37 : decode (am_code 0) 37 = .ok (.getfield 34, 3) := by decide +kernel
theorem dX0_allowed_40 : decode (am_code 0) 40 = .ok (.iload_n 2, 1) := by decide +kernel
theorem dX0_allowed_41 : decode (am_code 0) 41 = .ok (.baload, 1) := by decide +kernel
theorem dX0_allowed_42 : decode (am_code 0) 42 = .ok (.ifCond .eq 24, 3) := by decide +kernel
theorem dX0_allowed_45 : decode (am_code 0) 45 = .ok (.aload_n 0, 1) := by decide +kernel
theorem dX0_allowed_46 : decode (am_code 0) 46 = .ok (.getfield 25, 3) := by decide +kernel
theorem dX0_allowed_49 : decode (am_code 0) 49 = .ok (.getfield 38, 3) := by decide +kernel
theorem dX0_allowed_52 : decode (am_code 0) 52 = .ok (.iload_n 1, 1) := by decide +kernel
theorem dX0_allowed_53 : decode (am_code 0) 53 = .ok (.iaload, 1) := by decide +kernel
theorem dX0_allowed_54 : decode (am_code 0) 54 = .ok (.aload_n 0, 1) := by decide +kernel
theorem dX0_allowed_55 : decode (am_code 0) 55 = .ok (.getfield 25, 3) := by decide +kernel
theorem dX0_allowed_58 : decode (am_code 0) 58 = .ok (.getfield 38, 3) := by decide +kernel
theorem dX0_allowed_61 : decode (am_code 0) 61 = .ok (.iload_n 2, 1) := by decide +kernel
theorem dX0_allowed_62 : decode (am_code 0) 62 = .ok (.iaload, 1) := by decide +kernel
theorem dX0_allowed_63 : decode (am_code 0) 63 = .ok (.if_icmp .ne 5, 3) := by decide +kernel
theorem dX0_allowed_66 : decode (am_code 0) 66 = .ok (.iconst 0, 1) := by decide +kernel
theorem dX0_allowed_67 : decode (am_code 0) 67 = .ok (.ireturn, 1) := by decide +kernel
theorem dX0_allowed_68 : decode (am_code 0) 68 = .ok (.aload_n 0, 1) := by decide +kernel
theorem dX0_allowed_69 : decode (am_code 0) 69 = .ok (.getfield 21, 3) := by decide +kernel
theorem dX0_allowed_72 : decode (am_code 0) 72 = .ok (.iload_n 1, 1) := by decide +kernel
theorem dX0_allowed_73 : decode (am_code 0) 73 = .ok (.iload_n 2, 1) := by decide +kernel
theorem dX0_allowed_74 : decode (am_code 0) 74 = .ok (.invokevirtual 43, 3) := by decide +kernel
theorem dX0_allowed_77 : decode (am_code 0) 77 = .ok (.istore_n 3, 1) := by decide +kernel
theorem dX0_allowed_78 : decode (am_code 0) 78 = .ok (.iload_n 3, 1) := by decide +kernel
theorem dX0_allowed_79 : decode (am_code 0) 79 = .ok (.iconst (-1), 1) := by decide +kernel
theorem dX0_allowed_80 : decode (am_code 0) 80 = .ok (.if_icmp .eq 8, 3) := by decide +kernel
theorem dX0_allowed_83 : decode (am_code 0) 83 = .ok (.iload_n 3, 1) := by decide +kernel
theorem dX0_allowed_84 : decode (am_code 0) 84 = .ok (.iconst 3, 1) := by decide +kernel
theorem dX0_allowed_85 : decode (am_code 0) 85 = .ok (.if_icmp .le 7, 3) := by decide +kernel
theorem dX0_allowed_88 : decode (am_code 0) 88 = .ok (.iconst 1, 1) := by decide +kernel
theorem dX0_allowed_89 : decode (am_code 0) 89 = .ok (.goto 4, 3) := by decide +kernel
theorem dX0_allowed_92 : decode (am_code 0) 92 = .ok (.iconst 0, 1) := by decide +kernel
theorem dX0_allowed_93 : decode (am_code 0) 93 = .ok (.ireturn, 1) := by decide +kernel
theorem r0_0 (d : Nat) (st : List Value) (σ : am_St) (τ : Int64) (x : Nat) (v1 v2 v3 : Value) : am_run d 0 0 [.ref x, v1, v2, v3] st σ τ = am_run d 0 1 [.ref x, v1, v2, v3] (.ref x :: st) σ τ := rr_aload_n dX0_allowed_0 rfl
theorem r0_1 (d : Nat) (ls st : List Value) (σ : am_St) (τ : Int64) (k : Nat) : am_run d 0 1 ls (.ref k :: st) σ τ = am_gf k 0 5 σ τ (fun v => am_run d 0 4 ls (v :: st) σ τ) := rr_getf dX0_allowed_1 (by decide +kernel)
theorem r0_4 (d : Nat) (ls st : List Value) (σ : am_St) (τ : Int64) (k : Nat) : am_run d 0 4 ls (.ref k :: st) σ τ = am_gf k 1 2 σ τ (fun v => am_run d 0 7 ls (v :: st) σ τ) := rr_getf dX0_allowed_4 (by decide +kernel)
theorem r0_7 (d : Nat) (st : List Value) (σ : am_St) (τ : Int64) (x : Int32) (v0 v2 v3 : Value) : am_run d 0 7 [v0, .int x, v2, v3] st σ τ = am_run d 0 8 [v0, .int x, v2, v3] (.int x :: st) σ τ := rr_iload_n dX0_allowed_7 rfl
theorem r0_8 (d : Nat) (ls st : List Value) (σ : am_St) (τ : Int64) (i : Int32) (k : Nat) : am_run d 0 8 ls (.int i :: .ref k :: st) σ τ = am_ai false k i (fun j => am_run d 0 9 ls (.int (σ k j) :: st) σ τ) := rr_iald dX0_allowed_8
theorem r0_9 (d : Nat) (st : List Value) (σ : am_St) (τ : Int64) (x : Nat) (v1 v2 v3 : Value) : am_run d 0 9 [.ref x, v1, v2, v3] st σ τ = am_run d 0 10 [.ref x, v1, v2, v3] (.ref x :: st) σ τ := rr_aload_n dX0_allowed_9 rfl
theorem r0_10 (d : Nat) (ls st : List Value) (σ : am_St) (τ : Int64) (k : Nat) : am_run d 0 10 ls (.ref k :: st) σ τ = am_gf k 0 5 σ τ (fun v => am_run d 0 13 ls (v :: st) σ τ) := rr_getf dX0_allowed_10 (by decide +kernel)
theorem r0_13 (d : Nat) (ls st : List Value) (σ : am_St) (τ : Int64) (k : Nat) : am_run d 0 13 ls (.ref k :: st) σ τ = am_gf k 1 2 σ τ (fun v => am_run d 0 16 ls (v :: st) σ τ) := rr_getf dX0_allowed_13 (by decide +kernel)
theorem r0_16 (d : Nat) (st : List Value) (σ : am_St) (τ : Int64) (x : Int32) (v0 v1 v3 : Value) : am_run d 0 16 [v0, v1, .int x, v3] st σ τ = am_run d 0 17 [v0, v1, .int x, v3] (.int x :: st) σ τ := rr_iload_n dX0_allowed_16 rfl
theorem r0_17 (d : Nat) (ls st : List Value) (σ : am_St) (τ : Int64) (i : Int32) (k : Nat) : am_run d 0 17 ls (.int i :: .ref k :: st) σ τ = am_ai false k i (fun j => am_run d 0 18 ls (.int (σ k j) :: st) σ τ) := rr_iald dX0_allowed_17
theorem r0_18 (d : Nat) (ls st : List Value) (σ : am_St) (τ : Int64) (x y : Int32) : am_run d 0 18 ls (.int y :: .int x :: st) σ τ = if x = y then am_run d 0 66 ls st σ τ else am_run d 0 21 ls st σ τ := (rr_icmp 66 dX0_allowed_18 (by decide)).trans am_sel
theorem r0_21 (d : Nat) (st : List Value) (σ : am_St) (τ : Int64) (x : Nat) (v1 v2 v3 : Value) : am_run d 0 21 [.ref x, v1, v2, v3] st σ τ = am_run d 0 22 [.ref x, v1, v2, v3] (.ref x :: st) σ τ := rr_aload_n dX0_allowed_21 rfl
theorem r0_22 (d : Nat) (ls st : List Value) (σ : am_St) (τ : Int64) (k : Nat) : am_run d 0 22 ls (.ref k :: st) σ τ = am_gf k 0 5 σ τ (fun v => am_run d 0 25 ls (v :: st) σ τ) := rr_getf dX0_allowed_22 (by decide +kernel)
theorem r0_25 (d : Nat) (ls st : List Value) (σ : am_St) (τ : Int64) (k : Nat) : am_run d 0 25 ls (.ref k :: st) σ τ = am_gf k 1 9 σ τ (fun v => am_run d 0 28 ls (v :: st) σ τ) := rr_getf dX0_allowed_25 (by decide +kernel)
theorem r0_28 (d : Nat) (st : List Value) (σ : am_St) (τ : Int64) (x : Int32) (v0 v2 v3 : Value) : am_run d 0 28 [v0, .int x, v2, v3] st σ τ = am_run d 0 29 [v0, .int x, v2, v3] (.int x :: st) σ τ := rr_iload_n dX0_allowed_28 rfl
theorem r0_29 (d : Nat) (ls st : List Value) (σ : am_St) (τ : Int64) (i : Int32) (k : Nat) : am_run d 0 29 ls (.int i :: .ref k :: st) σ τ = am_ai true k i (fun j => am_run d 0 30 ls (.int (σ k j) :: st) σ τ) := rr_bald dX0_allowed_29
theorem r0_30 (d : Nat) (ls st : List Value) (σ : am_St) (τ : Int64) (x : Int32) : am_run d 0 30 ls (.int x :: st) σ τ = if x = 0 then am_run d 0 66 ls st σ τ else am_run d 0 33 ls st σ τ := (rr_if 66 dX0_allowed_30 (by decide)).trans am_sel
theorem r0_33 (d : Nat) (st : List Value) (σ : am_St) (τ : Int64) (x : Nat) (v1 v2 v3 : Value) : am_run d 0 33 [.ref x, v1, v2, v3] st σ τ = am_run d 0 34 [.ref x, v1, v2, v3] (.ref x :: st) σ τ := rr_aload_n dX0_allowed_33 rfl
theorem r0_34 (d : Nat) (ls st : List Value) (σ : am_St) (τ : Int64) (k : Nat) : am_run d 0 34 ls (.ref k :: st) σ τ = am_gf k 0 5 σ τ (fun v => am_run d 0 37 ls (v :: st) σ τ) := rr_getf dX0_allowed_34 (by decide +kernel)
theorem r0_37 (d : Nat) (ls st : List Value) (σ : am_St) (τ : Int64) (k : Nat) : am_run d 0 37 ls (.ref k :: st) σ τ = am_gf k 1 9 σ τ (fun v => am_run d 0 40 ls (v :: st) σ τ) := rr_getf dX0_allowed_37 (by decide +kernel)
theorem r0_40 (d : Nat) (st : List Value) (σ : am_St) (τ : Int64) (x : Int32) (v0 v1 v3 : Value) : am_run d 0 40 [v0, v1, .int x, v3] st σ τ = am_run d 0 41 [v0, v1, .int x, v3] (.int x :: st) σ τ := rr_iload_n dX0_allowed_40 rfl
theorem r0_41 (d : Nat) (ls st : List Value) (σ : am_St) (τ : Int64) (i : Int32) (k : Nat) : am_run d 0 41 ls (.int i :: .ref k :: st) σ τ = am_ai true k i (fun j => am_run d 0 42 ls (.int (σ k j) :: st) σ τ) := rr_bald dX0_allowed_41
theorem r0_42 (d : Nat) (ls st : List Value) (σ : am_St) (τ : Int64) (x : Int32) : am_run d 0 42 ls (.int x :: st) σ τ = if x = 0 then am_run d 0 66 ls st σ τ else am_run d 0 45 ls st σ τ := (rr_if 66 dX0_allowed_42 (by decide)).trans am_sel
theorem r0_45 (d : Nat) (st : List Value) (σ : am_St) (τ : Int64) (x : Nat) (v1 v2 v3 : Value) : am_run d 0 45 [.ref x, v1, v2, v3] st σ τ = am_run d 0 46 [.ref x, v1, v2, v3] (.ref x :: st) σ τ := rr_aload_n dX0_allowed_45 rfl
theorem r0_46 (d : Nat) (ls st : List Value) (σ : am_St) (τ : Int64) (k : Nat) : am_run d 0 46 ls (.ref k :: st) σ τ = am_gf k 0 6 σ τ (fun v => am_run d 0 49 ls (v :: st) σ τ) := rr_getf dX0_allowed_46 (by decide +kernel)
theorem r0_49 (d : Nat) (ls st : List Value) (σ : am_St) (τ : Int64) (k : Nat) : am_run d 0 49 ls (.ref k :: st) σ τ = am_gf k 7 0 σ τ (fun v => am_run d 0 52 ls (v :: st) σ τ) := rr_getf dX0_allowed_49 (by decide +kernel)
theorem r0_52 (d : Nat) (st : List Value) (σ : am_St) (τ : Int64) (x : Int32) (v0 v2 v3 : Value) : am_run d 0 52 [v0, .int x, v2, v3] st σ τ = am_run d 0 53 [v0, .int x, v2, v3] (.int x :: st) σ τ := rr_iload_n dX0_allowed_52 rfl
theorem r0_53 (d : Nat) (ls st : List Value) (σ : am_St) (τ : Int64) (i : Int32) (k : Nat) : am_run d 0 53 ls (.int i :: .ref k :: st) σ τ = am_ai false k i (fun j => am_run d 0 54 ls (.int (σ k j) :: st) σ τ) := rr_iald dX0_allowed_53
theorem r0_54 (d : Nat) (st : List Value) (σ : am_St) (τ : Int64) (x : Nat) (v1 v2 v3 : Value) : am_run d 0 54 [.ref x, v1, v2, v3] st σ τ = am_run d 0 55 [.ref x, v1, v2, v3] (.ref x :: st) σ τ := rr_aload_n dX0_allowed_54 rfl
theorem r0_55 (d : Nat) (ls st : List Value) (σ : am_St) (τ : Int64) (k : Nat) : am_run d 0 55 ls (.ref k :: st) σ τ = am_gf k 0 6 σ τ (fun v => am_run d 0 58 ls (v :: st) σ τ) := rr_getf dX0_allowed_55 (by decide +kernel)
theorem r0_58 (d : Nat) (ls st : List Value) (σ : am_St) (τ : Int64) (k : Nat) : am_run d 0 58 ls (.ref k :: st) σ τ = am_gf k 7 0 σ τ (fun v => am_run d 0 61 ls (v :: st) σ τ) := rr_getf dX0_allowed_58 (by decide +kernel)
theorem r0_61 (d : Nat) (st : List Value) (σ : am_St) (τ : Int64) (x : Int32) (v0 v1 v3 : Value) : am_run d 0 61 [v0, v1, .int x, v3] st σ τ = am_run d 0 62 [v0, v1, .int x, v3] (.int x :: st) σ τ := rr_iload_n dX0_allowed_61 rfl
theorem r0_62 (d : Nat) (ls st : List Value) (σ : am_St) (τ : Int64) (i : Int32) (k : Nat) : am_run d 0 62 ls (.int i :: .ref k :: st) σ τ = am_ai false k i (fun j => am_run d 0 63 ls (.int (σ k j) :: st) σ τ) := rr_iald dX0_allowed_62
theorem r0_63 (d : Nat) (ls st : List Value) (σ : am_St) (τ : Int64) (x y : Int32) : am_run d 0 63 ls (.int y :: .int x :: st) σ τ = if x = y then am_run d 0 66 ls st σ τ else am_run d 0 68 ls st σ τ := (rr_icmp 68 dX0_allowed_63 (by decide)).trans am_seln
theorem r0_66 (d : Nat) (ls st : List Value) (σ : am_St) (τ : Int64) : am_run d 0 66 ls st σ τ = am_run d 0 67 ls (.int 0 :: st) σ τ := rr_iconst 0 dX0_allowed_66 (by decide)
theorem r0_67 (d : Nat) (ls : List Value) (σ : am_St) (τ : Int64) (x : Int32) (hx : x = 0 ∨ x = 1) : am_run d 0 67 ls [.int x] σ τ = some (some (.int x), σ, τ) := rr_zret dX0_allowed_67 rfl hx
theorem r0_68 (d : Nat) (st : List Value) (σ : am_St) (τ : Int64) (x : Nat) (v1 v2 v3 : Value) : am_run d 0 68 [.ref x, v1, v2, v3] st σ τ = am_run d 0 69 [.ref x, v1, v2, v3] (.ref x :: st) σ τ := rr_aload_n dX0_allowed_68 rfl
theorem r0_69 (d : Nat) (ls st : List Value) (σ : am_St) (τ : Int64) (k : Nat) : am_run d 0 69 ls (.ref k :: st) σ τ = am_gf k 0 5 σ τ (fun v => am_run d 0 72 ls (v :: st) σ τ) := rr_getf dX0_allowed_69 (by decide +kernel)
theorem r0_72 (d : Nat) (st : List Value) (σ : am_St) (τ : Int64) (x : Int32) (v0 v2 v3 : Value) : am_run d 0 72 [v0, .int x, v2, v3] st σ τ = am_run d 0 73 [v0, .int x, v2, v3] (.int x :: st) σ τ := rr_iload_n dX0_allowed_72 rfl
theorem r0_73 (d : Nat) (st : List Value) (σ : am_St) (τ : Int64) (x : Int32) (v0 v1 v3 : Value) : am_run d 0 73 [v0, v1, .int x, v3] st σ τ = am_run d 0 74 [v0, v1, .int x, v3] (.int x :: st) σ τ := rr_iload_n dX0_allowed_73 rfl
theorem r0_74 (d : Nat) (ls st : List Value) (σ : am_St) (τ : Int64) (k : Nat) (a0 : Int32) (a1 : Int32) (hk : am_kc k = 1) (hc : am_cats st ≤ 8) : am_run (d + 1) 0 74 ls (.int a1 :: .int a0 :: .ref k :: st) σ τ = (am_call d 18 [.ref k, .int a0, .int a1] σ τ).bind (fun r => am_run (d + 1) 0 77 ls (r.1.toList ++ st) r.2.1 r.2.2) := rr_invv [.int a0, .int a1] dX0_allowed_74 (by decide +kernel) (by decide) rfl (Nat.le_of_ble_eq_true rfl) hk hc
theorem r0_77 (d : Nat) (st : List Value) (σ : am_St) (τ : Int64) (x : Int32) (v0 v1 v2 v3 : Value) : am_run d 0 77 [v0, v1, v2, v3] (.int x :: st) σ τ = am_run d 0 78 [v0, v1, am_nl v2, .int x] st σ τ := rr_istore_n _ dX0_allowed_77 (by decide) (by first | rfl | (by_cases h : v2.category = 2 <;> simp [am_set1, am_nl, h]))
theorem r0_78 (d : Nat) (st : List Value) (σ : am_St) (τ : Int64) (x : Int32) (v0 v1 v2 : Value) : am_run d 0 78 [v0, v1, v2, .int x] st σ τ = am_run d 0 79 [v0, v1, v2, .int x] (.int x :: st) σ τ := rr_iload_n dX0_allowed_78 rfl
theorem r0_79 (d : Nat) (ls st : List Value) (σ : am_St) (τ : Int64) : am_run d 0 79 ls st σ τ = am_run d 0 80 ls (.int (-1) :: st) σ τ := rr_iconst (-1) dX0_allowed_79 (by decide)
theorem r0_80 (d : Nat) (ls st : List Value) (σ : am_St) (τ : Int64) (x y : Int32) : am_run d 0 80 ls (.int y :: .int x :: st) σ τ = if x = y then am_run d 0 88 ls st σ τ else am_run d 0 83 ls st σ τ := (rr_icmp 88 dX0_allowed_80 (by decide)).trans am_sel
theorem r0_83 (d : Nat) (st : List Value) (σ : am_St) (τ : Int64) (x : Int32) (v0 v1 v2 : Value) : am_run d 0 83 [v0, v1, v2, .int x] st σ τ = am_run d 0 84 [v0, v1, v2, .int x] (.int x :: st) σ τ := rr_iload_n dX0_allowed_83 rfl
theorem r0_84 (d : Nat) (ls st : List Value) (σ : am_St) (τ : Int64) : am_run d 0 84 ls st σ τ = am_run d 0 85 ls (.int 3 :: st) σ τ := rr_iconst 3 dX0_allowed_84 (by decide)
theorem r0_85 (d : Nat) (ls st : List Value) (σ : am_St) (τ : Int64) (x y : Int32) : am_run d 0 85 ls (.int y :: .int x :: st) σ τ = if x ≤ y then am_run d 0 92 ls st σ τ else am_run d 0 88 ls st σ τ := (rr_icmp 92 dX0_allowed_85 (by decide)).trans am_sel
theorem r0_88 (d : Nat) (ls st : List Value) (σ : am_St) (τ : Int64) : am_run d 0 88 ls st σ τ = am_run d 0 89 ls (.int 1 :: st) σ τ := rr_iconst 1 dX0_allowed_88 (by decide)
theorem r0_89 (d : Nat) (ls st : List Value) (σ : am_St) (τ : Int64) : am_run d 0 89 ls st σ τ = am_run d 0 93 ls st σ τ := rr_goto 93 dX0_allowed_89 (by decide)
theorem r0_92 (d : Nat) (ls st : List Value) (σ : am_St) (τ : Int64) : am_run d 0 92 ls st σ τ = am_run d 0 93 ls (.int 0 :: st) σ τ := rr_iconst 0 dX0_allowed_92 (by decide)
theorem r0_93 (d : Nat) (ls : List Value) (σ : am_St) (τ : Int64) (x : Int32) (hx : x = 0 ∨ x = 1) : am_run d 0 93 ls [.int x] σ τ = some (some (.int x), σ, τ) := rr_zret dX0_allowed_93 rfl hx
theorem dX0_wedAll_0 : decode (am_code 1) 0 = .ok (.aload_n 0, 1) := by decide +kernel
theorem dX0_wedAll_1 : decode (am_code 1) 1 = .ok (.invokevirtual 47, 3) := by decide +kernel
theorem dX0_wedAll_4 : decode (am_code 1) 4 = .ok (.aload_n 0, 1) := by decide +kernel
theorem dX0_wedAll_5 : decode (am_code 1) 5 = .ok (.aload_n 0, 1) := by decide +kernel
theorem dX0_wedAll_6 : decode (am_code 1) 6 = .ok (.iconst 0, 1) := by decide +kernel
theorem dX0_wedAll_7 : decode (am_code 1) 7 = .ok (.iconst 0, 1) := by decide +kernel
theorem dX0_wedAll_8 : decode (am_code 1) 8 = .ok (.invokevirtual 50, 3) := by decide +kernel
theorem dX0_wedAll_11 : decode (am_code 1) 11 = .ok (.putfield 53, 3) := by decide +kernel
theorem dX0_wedAll_14 : decode (am_code 1) 14 = .ok (.aload_n 0, 1) := by decide +kernel
theorem dX0_wedAll_15 : decode (am_code 1) 15 = .ok (.getfield 53, 3) := by decide +kernel
theorem dX0_wedAll_18 : decode (am_code 1) 18 = .ok (.istore_n 1, 1) := by decide +kernel
theorem dX0_wedAll_19 : decode (am_code 1) 19 = .ok (.iconst 0, 1) := by decide +kernel
theorem dX0_wedAll_20 : decode (am_code 1) 20 = .ok (.istore_n 2, 1) := by decide +kernel
theorem dX0_wedAll_21 : decode (am_code 1) 21 = .ok (.iconst 0, 1) := by decide +kernel
theorem dX0_wedAll_22 : decode (am_code 1) 22 = .ok (.istore_n 3, 1) := by decide +kernel
theorem dX0_wedAll_23 : decode (am_code 1) 23 = .ok (.iload_n 3, 1) := by decide +kernel
theorem dX0_wedAll_24 : decode (am_code 1) 24 = .ok (.aload_n 0, 1) := by decide +kernel
theorem dX0_wedAll_25 : decode (am_code 1) 25 = .ok (.getfield 21, 3) := by decide +kernel
theorem dX0_wedAll_28 : decode (am_code 1) 28 = .ok (.getfield 57, 3) := by decide +kernel
theorem dX0_wedAll_31 : decode (am_code 1) 31 = .ok (.if_icmp .ge 50, 3) := by decide +kernel
theorem dX0_wedAll_34 : decode (am_code 1) 34 = .ok (.aload_n 0, 1) := by decide +kernel
theorem dX0_wedAll_35 : decode (am_code 1) 35 = .ok (.iload_n 3, 1) := by decide +kernel
theorem dX0_wedAll_36 : decode (am_code 1) 36 = .ok (.iload_n 2, 1) := by decide +kernel
theorem dX0_wedAll_37 : decode (am_code 1) 37 = .ok (.iload_n 1, 1) := by decide +kernel
theorem dX0_wedAll_38 : decode (am_code 1) 38 = .ok (.invokevirtual 60, 3) := by decide +kernel
theorem dX0_wedAll_41 : decode (am_code 1) 41 = .ok (.istore 4, 2) := by decide +kernel
theorem dX0_wedAll_43 : decode (am_code 1) 43 = .ok (.iload 4, 2) := by decide +kernel
theorem dX0_wedAll_45 : decode (am_code 1) 45 = .ok (.iconst (-1), 1) := by decide +kernel
theorem dX0_wedAll_46 : decode (am_code 1) 46 = .ok (.if_icmp .eq 29, 3) := by decide +kernel
theorem dX0_wedAll_49 : decode (am_code 1) 49 = .ok (.aload_n 0, 1) := by decide +kernel
theorem dX0_wedAll_50 : decode (am_code 1) 50 = .ok (.getfield 9, 3) := by decide +kernel
theorem dX0_wedAll_53 : decode (am_code 1) 53 = .ok (.iload_n 3, 1) := by decide +kernel
theorem dX0_wedAll_54 : decode (am_code 1) 54 = .ok (.iload 4, 2) := by decide +kernel
theorem dX0_wedAll_56 : decode (am_code 1) 56 = .ok (.iastore, 1) := by decide +kernel
theorem dX0_wedAll_57 : decode (am_code 1) 57 = .ok (.aload_n 0, 1) := by decide +kernel
theorem dX0_wedAll_58 : decode (am_code 1) 58 = .ok (.getfield 9, 3) := by decide +kernel
theorem dX0_wedAll_61 : decode (am_code 1) 61 = .ok (.iload 4, 2) := by decide +kernel
theorem dX0_wedAll_63 : decode (am_code 1) 63 = .ok (.iload_n 3, 1) := by decide +kernel
theorem dX0_wedAll_64 : decode (am_code 1) 64 = .ok (.iastore, 1) := by decide +kernel
theorem dX0_wedAll_65 : decode (am_code 1) 65 = .ok (.iload_n 2, 1) := by decide +kernel
theorem dX0_wedAll_66 : decode (am_code 1) 66 = .ok (.iconst 1, 1) := by decide +kernel
theorem dX0_wedAll_67 : decode (am_code 1) 67 = .ok (.iload 4, 2) := by decide +kernel
theorem dX0_wedAll_69 : decode (am_code 1) 69 = .ok (.ishl, 1) := by decide +kernel
theorem dX0_wedAll_70 : decode (am_code 1) 70 = .ok (.ior, 1) := by decide +kernel
theorem dX0_wedAll_71 : decode (am_code 1) 71 = .ok (.istore_n 2, 1) := by decide +kernel
theorem dX0_wedAll_72 : decode (am_code 1) 72 = .ok (.iinc 1 (-1), 3) := by decide +kernel
theorem dX0_wedAll_75 : decode (am_code 1) 75 = .ok (.iinc 3 1, 3) := by decide +kernel
theorem dX0_wedAll_78 : decode (am_code 1) 78 = .ok (.goto (-55), 3) := by decide +kernel
theorem dX0_wedAll_81 : decode (am_code 1) 81 = .ok (.return_, 1) := by decide +kernel
theorem r1_0 (d : Nat) (st : List Value) (σ : am_St) (τ : Int64) (x : Nat) (v1 v2 v3 v4 : Value) : am_run d 1 0 [.ref x, v1, v2, v3, v4] st σ τ = am_run d 1 1 [.ref x, v1, v2, v3, v4] (.ref x :: st) σ τ := rr_aload_n dX0_wedAll_0 rfl
theorem r1_1 (d : Nat) (ls st : List Value) (σ : am_St) (τ : Int64) (k : Nat)  (hk : am_kc k = 0) (hc : am_cats st ≤ 8) : am_run (d + 1) 1 1 ls (.ref k :: st) σ τ = (am_call d 2 [.ref k] σ τ).bind (fun r => am_run (d + 1) 1 4 ls (r.1.toList ++ st) r.2.1 r.2.2) := rr_invv [] dX0_wedAll_1 (by decide +kernel) (by decide) rfl (Nat.le_of_ble_eq_true rfl) hk hc
theorem r1_4 (d : Nat) (st : List Value) (σ : am_St) (τ : Int64) (x : Nat) (v1 v2 v3 v4 : Value) : am_run d 1 4 [.ref x, v1, v2, v3, v4] st σ τ = am_run d 1 5 [.ref x, v1, v2, v3, v4] (.ref x :: st) σ τ := rr_aload_n dX0_wedAll_4 rfl
theorem r1_5 (d : Nat) (st : List Value) (σ : am_St) (τ : Int64) (x : Nat) (v1 v2 v3 v4 : Value) : am_run d 1 5 [.ref x, v1, v2, v3, v4] st σ τ = am_run d 1 6 [.ref x, v1, v2, v3, v4] (.ref x :: st) σ τ := rr_aload_n dX0_wedAll_5 rfl
theorem r1_6 (d : Nat) (ls st : List Value) (σ : am_St) (τ : Int64) : am_run d 1 6 ls st σ τ = am_run d 1 7 ls (.int 0 :: st) σ τ := rr_iconst 0 dX0_wedAll_6 (by decide)
theorem r1_7 (d : Nat) (ls st : List Value) (σ : am_St) (τ : Int64) : am_run d 1 7 ls st σ τ = am_run d 1 8 ls (.int 0 :: st) σ τ := rr_iconst 0 dX0_wedAll_7 (by decide)
theorem r1_8 (d : Nat) (ls st : List Value) (σ : am_St) (τ : Int64) (k : Nat) (a0 : Int32) (a1 : Int32) (hk : am_kc k = 0) (hc : am_cats st ≤ 8) : am_run (d + 1) 1 8 ls (.int a1 :: .int a0 :: .ref k :: st) σ τ = (am_call d 4 [.ref k, .int a0, .int a1] σ τ).bind (fun r => am_run (d + 1) 1 11 ls (r.1.toList ++ st) r.2.1 r.2.2) := rr_invv [.int a0, .int a1] dX0_wedAll_8 (by decide +kernel) (by decide) rfl (Nat.le_of_ble_eq_true rfl) hk hc
theorem r1_11 (d : Nat) (ls st : List Value) (σ : am_St) (τ : Int64) (k : Nat) (x : Int32) : am_run d 1 11 ls (.int x :: .ref k :: st) σ τ = am_pf k 0 0 x σ (fun σ => am_run d 1 14 ls st σ τ) := rr_putf dX0_wedAll_11 (by decide +kernel)
theorem r1_14 (d : Nat) (st : List Value) (σ : am_St) (τ : Int64) (x : Nat) (v1 v2 v3 v4 : Value) : am_run d 1 14 [.ref x, v1, v2, v3, v4] st σ τ = am_run d 1 15 [.ref x, v1, v2, v3, v4] (.ref x :: st) σ τ := rr_aload_n dX0_wedAll_14 rfl
theorem r1_15 (d : Nat) (ls st : List Value) (σ : am_St) (τ : Int64) (k : Nat) : am_run d 1 15 ls (.ref k :: st) σ τ = am_gf k 0 0 σ τ (fun v => am_run d 1 18 ls (v :: st) σ τ) := rr_getf dX0_wedAll_15 (by decide +kernel)
theorem r1_18 (d : Nat) (st : List Value) (σ : am_St) (τ : Int64) (x : Int32) (v0 v1 v2 v3 v4 : Value) : am_run d 1 18 [v0, v1, v2, v3, v4] (.int x :: st) σ τ = am_run d 1 19 [am_nl v0, .int x, v2, v3, v4] st σ τ := rr_istore_n _ dX0_wedAll_18 (by decide) (by first | rfl | (by_cases h : v0.category = 2 <;> simp [am_set1, am_nl, h]))
theorem r1_19 (d : Nat) (ls st : List Value) (σ : am_St) (τ : Int64) : am_run d 1 19 ls st σ τ = am_run d 1 20 ls (.int 0 :: st) σ τ := rr_iconst 0 dX0_wedAll_19 (by decide)
theorem r1_20 (d : Nat) (st : List Value) (σ : am_St) (τ : Int64) (x : Int32) (v0 v1 v2 v3 v4 : Value) : am_run d 1 20 [v0, v1, v2, v3, v4] (.int x :: st) σ τ = am_run d 1 21 [v0, am_nl v1, .int x, v3, v4] st σ τ := rr_istore_n _ dX0_wedAll_20 (by decide) (by first | rfl | (by_cases h : v1.category = 2 <;> simp [am_set1, am_nl, h]))
theorem r1_21 (d : Nat) (ls st : List Value) (σ : am_St) (τ : Int64) : am_run d 1 21 ls st σ τ = am_run d 1 22 ls (.int 0 :: st) σ τ := rr_iconst 0 dX0_wedAll_21 (by decide)
theorem r1_22 (d : Nat) (st : List Value) (σ : am_St) (τ : Int64) (x : Int32) (v0 v1 v2 v3 v4 : Value) : am_run d 1 22 [v0, v1, v2, v3, v4] (.int x :: st) σ τ = am_run d 1 23 [v0, v1, am_nl v2, .int x, v4] st σ τ := rr_istore_n _ dX0_wedAll_22 (by decide) (by first | rfl | (by_cases h : v2.category = 2 <;> simp [am_set1, am_nl, h]))
theorem r1_23 (d : Nat) (st : List Value) (σ : am_St) (τ : Int64) (x : Int32) (v0 v1 v2 v4 : Value) : am_run d 1 23 [v0, v1, v2, .int x, v4] st σ τ = am_run d 1 24 [v0, v1, v2, .int x, v4] (.int x :: st) σ τ := rr_iload_n dX0_wedAll_23 rfl
theorem r1_24 (d : Nat) (st : List Value) (σ : am_St) (τ : Int64) (x : Nat) (v1 v2 v3 v4 : Value) : am_run d 1 24 [.ref x, v1, v2, v3, v4] st σ τ = am_run d 1 25 [.ref x, v1, v2, v3, v4] (.ref x :: st) σ τ := rr_aload_n dX0_wedAll_24 rfl
theorem r1_25 (d : Nat) (ls st : List Value) (σ : am_St) (τ : Int64) (k : Nat) : am_run d 1 25 ls (.ref k :: st) σ τ = am_gf k 0 5 σ τ (fun v => am_run d 1 28 ls (v :: st) σ τ) := rr_getf dX0_wedAll_25 (by decide +kernel)
theorem r1_28 (d : Nat) (ls st : List Value) (σ : am_St) (τ : Int64) (k : Nat) : am_run d 1 28 ls (.ref k :: st) σ τ = am_gf k 1 0 σ τ (fun v => am_run d 1 31 ls (v :: st) σ τ) := rr_getf dX0_wedAll_28 (by decide +kernel)
theorem r1_31 (d : Nat) (ls st : List Value) (σ : am_St) (τ : Int64) (x y : Int32) : am_run d 1 31 ls (.int y :: .int x :: st) σ τ = if y ≤ x then am_run d 1 81 ls st σ τ else am_run d 1 34 ls st σ τ := (rr_icmp 81 dX0_wedAll_31 (by decide)).trans am_sel
theorem r1_34 (d : Nat) (st : List Value) (σ : am_St) (τ : Int64) (x : Nat) (v1 v2 v3 v4 : Value) : am_run d 1 34 [.ref x, v1, v2, v3, v4] st σ τ = am_run d 1 35 [.ref x, v1, v2, v3, v4] (.ref x :: st) σ τ := rr_aload_n dX0_wedAll_34 rfl
theorem r1_35 (d : Nat) (st : List Value) (σ : am_St) (τ : Int64) (x : Int32) (v0 v1 v2 v4 : Value) : am_run d 1 35 [v0, v1, v2, .int x, v4] st σ τ = am_run d 1 36 [v0, v1, v2, .int x, v4] (.int x :: st) σ τ := rr_iload_n dX0_wedAll_35 rfl
theorem r1_36 (d : Nat) (st : List Value) (σ : am_St) (τ : Int64) (x : Int32) (v0 v1 v3 v4 : Value) : am_run d 1 36 [v0, v1, .int x, v3, v4] st σ τ = am_run d 1 37 [v0, v1, .int x, v3, v4] (.int x :: st) σ τ := rr_iload_n dX0_wedAll_36 rfl
theorem r1_37 (d : Nat) (st : List Value) (σ : am_St) (τ : Int64) (x : Int32) (v0 v2 v3 v4 : Value) : am_run d 1 37 [v0, .int x, v2, v3, v4] st σ τ = am_run d 1 38 [v0, .int x, v2, v3, v4] (.int x :: st) σ τ := rr_iload_n dX0_wedAll_37 rfl
theorem r1_38 (d : Nat) (ls st : List Value) (σ : am_St) (τ : Int64) (k : Nat) (a0 : Int32) (a1 : Int32) (a2 : Int32) (hk : am_kc k = 0) (hc : am_cats st ≤ 8) : am_run (d + 1) 1 38 ls (.int a2 :: .int a1 :: .int a0 :: .ref k :: st) σ τ = (am_call d 3 [.ref k, .int a0, .int a1, .int a2] σ τ).bind (fun r => am_run (d + 1) 1 41 ls (r.1.toList ++ st) r.2.1 r.2.2) := rr_invv [.int a0, .int a1, .int a2] dX0_wedAll_38 (by decide +kernel) (by decide) rfl (Nat.le_of_ble_eq_true rfl) hk hc
theorem r1_41 (d : Nat) (st : List Value) (σ : am_St) (τ : Int64) (x : Int32) (v0 v1 v2 v3 v4 : Value) : am_run d 1 41 [v0, v1, v2, v3, v4] (.int x :: st) σ τ = am_run d 1 43 [v0, v1, v2, am_nl v3, .int x] st σ τ := rr_istore _ dX0_wedAll_41 (by decide) (by first | rfl | (by_cases h : v3.category = 2 <;> simp [am_set1, am_nl, h]))
theorem r1_43 (d : Nat) (st : List Value) (σ : am_St) (τ : Int64) (x : Int32) (v0 v1 v2 v3 : Value) : am_run d 1 43 [v0, v1, v2, v3, .int x] st σ τ = am_run d 1 45 [v0, v1, v2, v3, .int x] (.int x :: st) σ τ := rr_iload dX0_wedAll_43 rfl
theorem r1_45 (d : Nat) (ls st : List Value) (σ : am_St) (τ : Int64) : am_run d 1 45 ls st σ τ = am_run d 1 46 ls (.int (-1) :: st) σ τ := rr_iconst (-1) dX0_wedAll_45 (by decide)
theorem r1_46 (d : Nat) (ls st : List Value) (σ : am_St) (τ : Int64) (x y : Int32) : am_run d 1 46 ls (.int y :: .int x :: st) σ τ = if x = y then am_run d 1 75 ls st σ τ else am_run d 1 49 ls st σ τ := (rr_icmp 75 dX0_wedAll_46 (by decide)).trans am_sel
theorem r1_49 (d : Nat) (st : List Value) (σ : am_St) (τ : Int64) (x : Nat) (v1 v2 v3 v4 : Value) : am_run d 1 49 [.ref x, v1, v2, v3, v4] st σ τ = am_run d 1 50 [.ref x, v1, v2, v3, v4] (.ref x :: st) σ τ := rr_aload_n dX0_wedAll_49 rfl
theorem r1_50 (d : Nat) (ls st : List Value) (σ : am_St) (τ : Int64) (k : Nat) : am_run d 1 50 ls (.ref k :: st) σ τ = am_gf k 0 1 σ τ (fun v => am_run d 1 53 ls (v :: st) σ τ) := rr_getf dX0_wedAll_50 (by decide +kernel)
theorem r1_53 (d : Nat) (st : List Value) (σ : am_St) (τ : Int64) (x : Int32) (v0 v1 v2 v4 : Value) : am_run d 1 53 [v0, v1, v2, .int x, v4] st σ τ = am_run d 1 54 [v0, v1, v2, .int x, v4] (.int x :: st) σ τ := rr_iload_n dX0_wedAll_53 rfl
theorem r1_54 (d : Nat) (st : List Value) (σ : am_St) (τ : Int64) (x : Int32) (v0 v1 v2 v3 : Value) : am_run d 1 54 [v0, v1, v2, v3, .int x] st σ τ = am_run d 1 56 [v0, v1, v2, v3, .int x] (.int x :: st) σ τ := rr_iload dX0_wedAll_54 rfl
theorem r1_56 (d : Nat) (ls st : List Value) (σ : am_St) (τ : Int64) (x i : Int32) (k : Nat) : am_run d 1 56 ls (.int x :: .int i :: .ref k :: st) σ τ = am_ai false k i (fun j => am_run d 1 57 ls st (am_up σ k j x) τ) := rr_iast dX0_wedAll_56
theorem r1_57 (d : Nat) (st : List Value) (σ : am_St) (τ : Int64) (x : Nat) (v1 v2 v3 v4 : Value) : am_run d 1 57 [.ref x, v1, v2, v3, v4] st σ τ = am_run d 1 58 [.ref x, v1, v2, v3, v4] (.ref x :: st) σ τ := rr_aload_n dX0_wedAll_57 rfl
theorem r1_58 (d : Nat) (ls st : List Value) (σ : am_St) (τ : Int64) (k : Nat) : am_run d 1 58 ls (.ref k :: st) σ τ = am_gf k 0 1 σ τ (fun v => am_run d 1 61 ls (v :: st) σ τ) := rr_getf dX0_wedAll_58 (by decide +kernel)
theorem r1_61 (d : Nat) (st : List Value) (σ : am_St) (τ : Int64) (x : Int32) (v0 v1 v2 v3 : Value) : am_run d 1 61 [v0, v1, v2, v3, .int x] st σ τ = am_run d 1 63 [v0, v1, v2, v3, .int x] (.int x :: st) σ τ := rr_iload dX0_wedAll_61 rfl
theorem r1_63 (d : Nat) (st : List Value) (σ : am_St) (τ : Int64) (x : Int32) (v0 v1 v2 v4 : Value) : am_run d 1 63 [v0, v1, v2, .int x, v4] st σ τ = am_run d 1 64 [v0, v1, v2, .int x, v4] (.int x :: st) σ τ := rr_iload_n dX0_wedAll_63 rfl
theorem r1_64 (d : Nat) (ls st : List Value) (σ : am_St) (τ : Int64) (x i : Int32) (k : Nat) : am_run d 1 64 ls (.int x :: .int i :: .ref k :: st) σ τ = am_ai false k i (fun j => am_run d 1 65 ls st (am_up σ k j x) τ) := rr_iast dX0_wedAll_64
theorem r1_65 (d : Nat) (st : List Value) (σ : am_St) (τ : Int64) (x : Int32) (v0 v1 v3 v4 : Value) : am_run d 1 65 [v0, v1, .int x, v3, v4] st σ τ = am_run d 1 66 [v0, v1, .int x, v3, v4] (.int x :: st) σ τ := rr_iload_n dX0_wedAll_65 rfl
theorem r1_66 (d : Nat) (ls st : List Value) (σ : am_St) (τ : Int64) : am_run d 1 66 ls st σ τ = am_run d 1 67 ls (.int 1 :: st) σ τ := rr_iconst 1 dX0_wedAll_66 (by decide)
theorem r1_67 (d : Nat) (st : List Value) (σ : am_St) (τ : Int64) (x : Int32) (v0 v1 v2 v3 : Value) : am_run d 1 67 [v0, v1, v2, v3, .int x] st σ τ = am_run d 1 69 [v0, v1, v2, v3, .int x] (.int x :: st) σ τ := rr_iload dX0_wedAll_67 rfl
theorem r1_69 (d : Nat) (ls st : List Value) (σ : am_St) (τ : Int64) (x y : Int32) : am_run d 1 69 ls (.int y :: .int x :: st) σ τ = am_run d 1 70 ls (.int (x <<< (y &&& 31)) :: st) σ τ := rr_ishl dX0_wedAll_69
theorem r1_70 (d : Nat) (ls st : List Value) (σ : am_St) (τ : Int64) (x y : Int32) : am_run d 1 70 ls (.int y :: .int x :: st) σ τ = am_run d 1 71 ls (.int (x ||| y) :: st) σ τ := rr_ior dX0_wedAll_70
theorem r1_71 (d : Nat) (st : List Value) (σ : am_St) (τ : Int64) (x : Int32) (v0 v1 v2 v3 v4 : Value) : am_run d 1 71 [v0, v1, v2, v3, v4] (.int x :: st) σ τ = am_run d 1 72 [v0, am_nl v1, .int x, v3, v4] st σ τ := rr_istore_n _ dX0_wedAll_71 (by decide) (by first | rfl | (by_cases h : v1.category = 2 <;> simp [am_set1, am_nl, h]))
theorem r1_72 (d : Nat) (st : List Value) (σ : am_St) (τ : Int64) (x : Int32) (v0 v2 v3 v4 : Value) : am_run d 1 72 [v0, .int x, v2, v3, v4] st σ τ = am_run d 1 75 [am_nl v0, .int (x + (-1)), v2, v3, v4] st σ τ := rr_iinc (-1) _ dX0_wedAll_72 rfl (by decide) (by decide) (by first | rfl | (by_cases h : v0.category = 2 <;> simp [am_set1, am_nl, h]))
theorem r1_75 (d : Nat) (st : List Value) (σ : am_St) (τ : Int64) (x : Int32) (v0 v1 v2 v4 : Value) : am_run d 1 75 [v0, v1, v2, .int x, v4] st σ τ = am_run d 1 78 [v0, v1, am_nl v2, .int (x + 1), v4] st σ τ := rr_iinc 1 _ dX0_wedAll_75 rfl (by decide) (by decide) (by first | rfl | (by_cases h : v2.category = 2 <;> simp [am_set1, am_nl, h]))
theorem r1_78 (d : Nat) (ls st : List Value) (σ : am_St) (τ : Int64) : am_run d 1 78 ls st σ τ = am_run d 1 23 ls st σ τ := rr_goto 23 dX0_wedAll_78 (by decide)
theorem r1_81 (d : Nat) (ls : List Value) (σ : am_St) (τ : Int64) : am_run d 1 81 ls [] σ τ = some (none, σ, τ) := rr_vret dX0_wedAll_81 rfl
theorem dX0_findWomen_0 : decode (am_code 2) 0 = .ok (.iconst 0, 1) := by decide +kernel
theorem dX0_findWomen_1 : decode (am_code 2) 1 = .ok (.istore_n 1, 1) := by decide +kernel
theorem dX0_findWomen_2 : decode (am_code 2) 2 = .ok (.iload_n 1, 1) := by decide +kernel
theorem dX0_findWomen_3 : decode (am_code 2) 3 = .ok (.bipush 12, 2) := by decide +kernel
theorem dX0_findWomen_5 : decode (am_code 2) 5 = .ok (.if_icmp .ge 23, 3) := by decide +kernel
theorem dX0_findWomen_8 : decode (am_code 2) 8 = .ok (.aload_n 0, 1) := by decide +kernel
theorem dX0_findWomen_9 : decode (am_code 2) 9 = .ok (.getfield 9, 3) := by decide +kernel
theorem dX0_findWomen_12 : decode (am_code 2) 12 = .ok (.iload_n 1, 1) := by decide +kernel
theorem dX0_findWomen_13 : decode (am_code 2) 13 = .ok (.iconst (-1), 1) := by decide +kernel
theorem dX0_findWomen_14 : decode (am_code 2) 14 = .ok (.iastore, 1) := by decide +kernel
theorem dX0_findWomen_15 : decode (am_code 2) 15 = .ok (.aload_n 0, 1) := by decide +kernel
theorem dX0_findWomen_16 : decode (am_code 2) 16 = .ok (.getfield 15, 3) := by decide +kernel
theorem dX0_findWomen_19 : decode (am_code 2) 19 = .ok (.iload_n 1, 1) := by decide +kernel
theorem dX0_findWomen_20 : decode (am_code 2) 20 = .ok (.iconst 0, 1) := by decide +kernel
theorem dX0_findWomen_21 : decode (am_code 2) 21 = .ok (.iastore, 1) := by decide +kernel
theorem dX0_findWomen_22 : decode (am_code 2) 22 = .ok (.iinc 1 1, 3) := by decide +kernel
theorem dX0_findWomen_25 : decode (am_code 2) 25 = .ok (.goto (-23), 3) := by decide +kernel
theorem dX0_findWomen_28 : decode (am_code 2) 28 = .ok (.iconst 0, 1) := by decide +kernel
theorem dX0_findWomen_29 : decode (am_code 2) 29 = .ok (.istore_n 1, 1) := by decide +kernel
theorem dX0_findWomen_30 : decode (am_code 2) 30 = .ok (.iload_n 1, 1) := by decide +kernel
theorem dX0_findWomen_31 : decode (am_code 2) 31 = .ok (.aload_n 0, 1) := by decide +kernel
theorem dX0_findWomen_32 : decode (am_code 2) 32 = .ok (.getfield 21, 3) := by decide +kernel
theorem dX0_findWomen_35 : decode (am_code 2) 35 = .ok (.getfield 57, 3) := by decide +kernel
theorem dX0_findWomen_38 : decode (am_code 2) 38 = .ok (.if_icmp .ge 65, 3) := by decide +kernel
theorem dX0_findWomen_41 : decode (am_code 2) 41 = .ok (.iconst 0, 1) := by decide +kernel
theorem dX0_findWomen_42 : decode (am_code 2) 42 = .ok (.istore_n 2, 1) := by decide +kernel
theorem dX0_findWomen_43 : decode (am_code 2) 43 = .ok (.iload_n 2, 1) := by decide +kernel
theorem dX0_findWomen_44 : decode (am_code 2) 44 = .ok (.aload_n 0, 1) := by decide +kernel
theorem dX0_findWomen_45 : decode (am_code 2) 45 = .ok (.getfield 21, 3) := by decide +kernel
theorem dX0_findWomen_48 : decode (am_code 2) 48 = .ok (.getfield 57, 3) := by decide +kernel
theorem dX0_findWomen_51 : decode (am_code 2) 51 = .ok (.if_icmp .ge 46, 3) := by decide +kernel
theorem dX0_findWomen_54 : decode (am_code 2) 54 = .ok (.aload_n 0, 1) := by decide +kernel
theorem dX0_findWomen_55 : decode (am_code 2) 55 = .ok (.getfield 21, 3) := by decide +kernel
theorem dX0_findWomen_58 : decode (am_code 2) 58 = .ok (.getfield 29, 3) := by decide +kernel
theorem dX0_findWomen_61 : decode (am_code 2) 61 = .ok (.iload_n 1, 1) := by decide +kernel
theorem dX0_findWomen_62 : decode (am_code 2) 62 = .ok (.iaload, 1) := by decide +kernel
theorem dX0_findWomen_63 : decode (am_code 2) 63 = .ok (.ifCond .ne 34, 3) := by decide +kernel
theorem dX0_findWomen_66 : decode (am_code 2) 66 = .ok (.aload_n 0, 1) := by decide +kernel
theorem dX0_findWomen_67 : decode (am_code 2) 67 = .ok (.getfield 15, 3) := by decide +kernel
theorem dX0_findWomen_70 : decode (am_code 2) 70 = .ok (.iload_n 1, 1) := by decide +kernel
theorem dX0_findWomen_71 : decode (am_code 2) 71 = .ok (.dup2, 1) := by decide +kernel
theorem dX0_findWomen_72 : decode (am_code 2) 72 = .ok (.iaload, 1) := by decide +kernel
theorem dX0_findWomen_73 : decode (am_code 2) 73 = .ok (.aload_n 0, 1) := by decide +kernel
theorem dX0_findWomen_74 : decode (am_code 2) 74 = .ok (.iload_n 1, 1) := by decide +kernel
theorem dX0_findWomen_75 : decode (am_code 2) 75 = .ok (.iload_n 2, 1) := by decide +kernel
theorem dX0_findWomen_76 : decode (am_code 2) 76 = .ok (.invokevirtual 64, 3) := by decide +kernel
theorem dX0_findWomen_79 : decode (am_code 2) 79 = .ok (.ifCond .eq 9, 3) := by decide +kernel
theorem dX0_findWomen_82 : decode (am_code 2) 82 = .ok (.iconst 1, 1) := by decide +kernel
theorem dX0_findWomen_83 : decode (am_code 2) 83 = .ok (.iload_n 2, 1) := by decide +kernel
theorem dX0_findWomen_84 : decode (am_code 2) 84 = .ok (.ishl, 1) := by decide +kernel
theorem dX0_findWomen_85 : decode (am_code 2) 85 = .ok (.goto 4, 3) := by decide +kernel
theorem dX0_findWomen_88 : decode (am_code 2) 88 = .ok (.iconst 0, 1) := by decide +kernel
theorem dX0_findWomen_89 : decode (am_code 2) 89 = .ok (.ior, 1) := by decide +kernel
theorem dX0_findWomen_90 : decode (am_code 2) 90 = .ok (.iastore, 1) := by decide +kernel
theorem dX0_findWomen_91 : decode (am_code 2) 91 = .ok (.iinc 2 1, 3) := by decide +kernel
theorem dX0_findWomen_94 : decode (am_code 2) 94 = .ok (.goto (-51), 3) := by decide +kernel
theorem dX0_findWomen_97 : decode (am_code 2) 97 = .ok (.iinc 1 1, 3) := by decide +kernel
theorem dX0_findWomen_100 : decode (am_code 2) 100 = .ok (.goto (-70), 3) := by decide +kernel
theorem dX0_findWomen_103 : decode (am_code 2) 103 = .ok (.return_, 1) := by decide +kernel
theorem r2_0 (d : Nat) (ls st : List Value) (σ : am_St) (τ : Int64) : am_run d 2 0 ls st σ τ = am_run d 2 1 ls (.int 0 :: st) σ τ := rr_iconst 0 dX0_findWomen_0 (by decide)
theorem r2_1 (d : Nat) (st : List Value) (σ : am_St) (τ : Int64) (x : Int32) (v0 v1 v2 : Value) : am_run d 2 1 [v0, v1, v2] (.int x :: st) σ τ = am_run d 2 2 [am_nl v0, .int x, v2] st σ τ := rr_istore_n _ dX0_findWomen_1 (by decide) (by first | rfl | (by_cases h : v0.category = 2 <;> simp [am_set1, am_nl, h]))
theorem r2_2 (d : Nat) (st : List Value) (σ : am_St) (τ : Int64) (x : Int32) (v0 v2 : Value) : am_run d 2 2 [v0, .int x, v2] st σ τ = am_run d 2 3 [v0, .int x, v2] (.int x :: st) σ τ := rr_iload_n dX0_findWomen_2 rfl
theorem r2_3 (d : Nat) (ls st : List Value) (σ : am_St) (τ : Int64) : am_run d 2 3 ls st σ τ = am_run d 2 5 ls (.int 12 :: st) σ τ := rr_bipush 12 dX0_findWomen_3 (by decide)
theorem r2_5 (d : Nat) (ls st : List Value) (σ : am_St) (τ : Int64) (x y : Int32) : am_run d 2 5 ls (.int y :: .int x :: st) σ τ = if y ≤ x then am_run d 2 28 ls st σ τ else am_run d 2 8 ls st σ τ := (rr_icmp 28 dX0_findWomen_5 (by decide)).trans am_sel
theorem r2_8 (d : Nat) (st : List Value) (σ : am_St) (τ : Int64) (x : Nat) (v1 v2 : Value) : am_run d 2 8 [.ref x, v1, v2] st σ τ = am_run d 2 9 [.ref x, v1, v2] (.ref x :: st) σ τ := rr_aload_n dX0_findWomen_8 rfl
theorem r2_9 (d : Nat) (ls st : List Value) (σ : am_St) (τ : Int64) (k : Nat) : am_run d 2 9 ls (.ref k :: st) σ τ = am_gf k 0 1 σ τ (fun v => am_run d 2 12 ls (v :: st) σ τ) := rr_getf dX0_findWomen_9 (by decide +kernel)
theorem r2_12 (d : Nat) (st : List Value) (σ : am_St) (τ : Int64) (x : Int32) (v0 v2 : Value) : am_run d 2 12 [v0, .int x, v2] st σ τ = am_run d 2 13 [v0, .int x, v2] (.int x :: st) σ τ := rr_iload_n dX0_findWomen_12 rfl
theorem r2_13 (d : Nat) (ls st : List Value) (σ : am_St) (τ : Int64) : am_run d 2 13 ls st σ τ = am_run d 2 14 ls (.int (-1) :: st) σ τ := rr_iconst (-1) dX0_findWomen_13 (by decide)
theorem r2_14 (d : Nat) (ls st : List Value) (σ : am_St) (τ : Int64) (x i : Int32) (k : Nat) : am_run d 2 14 ls (.int x :: .int i :: .ref k :: st) σ τ = am_ai false k i (fun j => am_run d 2 15 ls st (am_up σ k j x) τ) := rr_iast dX0_findWomen_14
theorem r2_15 (d : Nat) (st : List Value) (σ : am_St) (τ : Int64) (x : Nat) (v1 v2 : Value) : am_run d 2 15 [.ref x, v1, v2] st σ τ = am_run d 2 16 [.ref x, v1, v2] (.ref x :: st) σ τ := rr_aload_n dX0_findWomen_15 rfl
theorem r2_16 (d : Nat) (ls st : List Value) (σ : am_St) (τ : Int64) (k : Nat) : am_run d 2 16 ls (.ref k :: st) σ τ = am_gf k 0 2 σ τ (fun v => am_run d 2 19 ls (v :: st) σ τ) := rr_getf dX0_findWomen_16 (by decide +kernel)
theorem r2_19 (d : Nat) (st : List Value) (σ : am_St) (τ : Int64) (x : Int32) (v0 v2 : Value) : am_run d 2 19 [v0, .int x, v2] st σ τ = am_run d 2 20 [v0, .int x, v2] (.int x :: st) σ τ := rr_iload_n dX0_findWomen_19 rfl
theorem r2_20 (d : Nat) (ls st : List Value) (σ : am_St) (τ : Int64) : am_run d 2 20 ls st σ τ = am_run d 2 21 ls (.int 0 :: st) σ τ := rr_iconst 0 dX0_findWomen_20 (by decide)
theorem r2_21 (d : Nat) (ls st : List Value) (σ : am_St) (τ : Int64) (x i : Int32) (k : Nat) : am_run d 2 21 ls (.int x :: .int i :: .ref k :: st) σ τ = am_ai false k i (fun j => am_run d 2 22 ls st (am_up σ k j x) τ) := rr_iast dX0_findWomen_21
theorem r2_22 (d : Nat) (st : List Value) (σ : am_St) (τ : Int64) (x : Int32) (v0 v2 : Value) : am_run d 2 22 [v0, .int x, v2] st σ τ = am_run d 2 25 [am_nl v0, .int (x + 1), v2] st σ τ := rr_iinc 1 _ dX0_findWomen_22 rfl (by decide) (by decide) (by first | rfl | (by_cases h : v0.category = 2 <;> simp [am_set1, am_nl, h]))
theorem r2_25 (d : Nat) (ls st : List Value) (σ : am_St) (τ : Int64) : am_run d 2 25 ls st σ τ = am_run d 2 2 ls st σ τ := rr_goto 2 dX0_findWomen_25 (by decide)
theorem r2_28 (d : Nat) (ls st : List Value) (σ : am_St) (τ : Int64) : am_run d 2 28 ls st σ τ = am_run d 2 29 ls (.int 0 :: st) σ τ := rr_iconst 0 dX0_findWomen_28 (by decide)
theorem r2_29 (d : Nat) (st : List Value) (σ : am_St) (τ : Int64) (x : Int32) (v0 v1 v2 : Value) : am_run d 2 29 [v0, v1, v2] (.int x :: st) σ τ = am_run d 2 30 [am_nl v0, .int x, v2] st σ τ := rr_istore_n _ dX0_findWomen_29 (by decide) (by first | rfl | (by_cases h : v0.category = 2 <;> simp [am_set1, am_nl, h]))
theorem r2_30 (d : Nat) (st : List Value) (σ : am_St) (τ : Int64) (x : Int32) (v0 v2 : Value) : am_run d 2 30 [v0, .int x, v2] st σ τ = am_run d 2 31 [v0, .int x, v2] (.int x :: st) σ τ := rr_iload_n dX0_findWomen_30 rfl
theorem r2_31 (d : Nat) (st : List Value) (σ : am_St) (τ : Int64) (x : Nat) (v1 v2 : Value) : am_run d 2 31 [.ref x, v1, v2] st σ τ = am_run d 2 32 [.ref x, v1, v2] (.ref x :: st) σ τ := rr_aload_n dX0_findWomen_31 rfl
theorem r2_32 (d : Nat) (ls st : List Value) (σ : am_St) (τ : Int64) (k : Nat) : am_run d 2 32 ls (.ref k :: st) σ τ = am_gf k 0 5 σ τ (fun v => am_run d 2 35 ls (v :: st) σ τ) := rr_getf dX0_findWomen_32 (by decide +kernel)
theorem r2_35 (d : Nat) (ls st : List Value) (σ : am_St) (τ : Int64) (k : Nat) : am_run d 2 35 ls (.ref k :: st) σ τ = am_gf k 1 0 σ τ (fun v => am_run d 2 38 ls (v :: st) σ τ) := rr_getf dX0_findWomen_35 (by decide +kernel)
theorem r2_38 (d : Nat) (ls st : List Value) (σ : am_St) (τ : Int64) (x y : Int32) : am_run d 2 38 ls (.int y :: .int x :: st) σ τ = if y ≤ x then am_run d 2 103 ls st σ τ else am_run d 2 41 ls st σ τ := (rr_icmp 103 dX0_findWomen_38 (by decide)).trans am_sel
theorem r2_41 (d : Nat) (ls st : List Value) (σ : am_St) (τ : Int64) : am_run d 2 41 ls st σ τ = am_run d 2 42 ls (.int 0 :: st) σ τ := rr_iconst 0 dX0_findWomen_41 (by decide)
theorem r2_42 (d : Nat) (st : List Value) (σ : am_St) (τ : Int64) (x : Int32) (v0 v1 v2 : Value) : am_run d 2 42 [v0, v1, v2] (.int x :: st) σ τ = am_run d 2 43 [v0, am_nl v1, .int x] st σ τ := rr_istore_n _ dX0_findWomen_42 (by decide) (by first | rfl | (by_cases h : v1.category = 2 <;> simp [am_set1, am_nl, h]))
theorem r2_43 (d : Nat) (st : List Value) (σ : am_St) (τ : Int64) (x : Int32) (v0 v1 : Value) : am_run d 2 43 [v0, v1, .int x] st σ τ = am_run d 2 44 [v0, v1, .int x] (.int x :: st) σ τ := rr_iload_n dX0_findWomen_43 rfl
theorem r2_44 (d : Nat) (st : List Value) (σ : am_St) (τ : Int64) (x : Nat) (v1 v2 : Value) : am_run d 2 44 [.ref x, v1, v2] st σ τ = am_run d 2 45 [.ref x, v1, v2] (.ref x :: st) σ τ := rr_aload_n dX0_findWomen_44 rfl
theorem r2_45 (d : Nat) (ls st : List Value) (σ : am_St) (τ : Int64) (k : Nat) : am_run d 2 45 ls (.ref k :: st) σ τ = am_gf k 0 5 σ τ (fun v => am_run d 2 48 ls (v :: st) σ τ) := rr_getf dX0_findWomen_45 (by decide +kernel)
theorem r2_48 (d : Nat) (ls st : List Value) (σ : am_St) (τ : Int64) (k : Nat) : am_run d 2 48 ls (.ref k :: st) σ τ = am_gf k 1 0 σ τ (fun v => am_run d 2 51 ls (v :: st) σ τ) := rr_getf dX0_findWomen_48 (by decide +kernel)
theorem r2_51 (d : Nat) (ls st : List Value) (σ : am_St) (τ : Int64) (x y : Int32) : am_run d 2 51 ls (.int y :: .int x :: st) σ τ = if y ≤ x then am_run d 2 97 ls st σ τ else am_run d 2 54 ls st σ τ := (rr_icmp 97 dX0_findWomen_51 (by decide)).trans am_sel
theorem r2_54 (d : Nat) (st : List Value) (σ : am_St) (τ : Int64) (x : Nat) (v1 v2 : Value) : am_run d 2 54 [.ref x, v1, v2] st σ τ = am_run d 2 55 [.ref x, v1, v2] (.ref x :: st) σ τ := rr_aload_n dX0_findWomen_54 rfl
theorem r2_55 (d : Nat) (ls st : List Value) (σ : am_St) (τ : Int64) (k : Nat) : am_run d 2 55 ls (.ref k :: st) σ τ = am_gf k 0 5 σ τ (fun v => am_run d 2 58 ls (v :: st) σ τ) := rr_getf dX0_findWomen_55 (by decide +kernel)
theorem r2_58 (d : Nat) (ls st : List Value) (σ : am_St) (τ : Int64) (k : Nat) : am_run d 2 58 ls (.ref k :: st) σ τ = am_gf k 1 2 σ τ (fun v => am_run d 2 61 ls (v :: st) σ τ) := rr_getf dX0_findWomen_58 (by decide +kernel)
theorem r2_61 (d : Nat) (st : List Value) (σ : am_St) (τ : Int64) (x : Int32) (v0 v2 : Value) : am_run d 2 61 [v0, .int x, v2] st σ τ = am_run d 2 62 [v0, .int x, v2] (.int x :: st) σ τ := rr_iload_n dX0_findWomen_61 rfl
theorem r2_62 (d : Nat) (ls st : List Value) (σ : am_St) (τ : Int64) (i : Int32) (k : Nat) : am_run d 2 62 ls (.int i :: .ref k :: st) σ τ = am_ai false k i (fun j => am_run d 2 63 ls (.int (σ k j) :: st) σ τ) := rr_iald dX0_findWomen_62
theorem r2_63 (d : Nat) (ls st : List Value) (σ : am_St) (τ : Int64) (x : Int32) : am_run d 2 63 ls (.int x :: st) σ τ = if x = 0 then am_run d 2 66 ls st σ τ else am_run d 2 97 ls st σ τ := (rr_if 97 dX0_findWomen_63 (by decide)).trans am_seln
theorem r2_66 (d : Nat) (st : List Value) (σ : am_St) (τ : Int64) (x : Nat) (v1 v2 : Value) : am_run d 2 66 [.ref x, v1, v2] st σ τ = am_run d 2 67 [.ref x, v1, v2] (.ref x :: st) σ τ := rr_aload_n dX0_findWomen_66 rfl
theorem r2_67 (d : Nat) (ls st : List Value) (σ : am_St) (τ : Int64) (k : Nat) : am_run d 2 67 ls (.ref k :: st) σ τ = am_gf k 0 2 σ τ (fun v => am_run d 2 70 ls (v :: st) σ τ) := rr_getf dX0_findWomen_67 (by decide +kernel)
theorem r2_70 (d : Nat) (st : List Value) (σ : am_St) (τ : Int64) (x : Int32) (v0 v2 : Value) : am_run d 2 70 [v0, .int x, v2] st σ τ = am_run d 2 71 [v0, .int x, v2] (.int x :: st) σ τ := rr_iload_n dX0_findWomen_70 rfl
theorem r2_71 (d : Nat) (ls st : List Value) (σ : am_St) (τ : Int64) (x : Int32) (y : Nat) : am_run d 2 71 ls (.int x :: .ref y :: st) σ τ = am_run d 2 72 ls (.int x :: .ref y :: .int x :: .ref y :: st) σ τ := rr_dup2 dX0_findWomen_71
theorem r2_72 (d : Nat) (ls st : List Value) (σ : am_St) (τ : Int64) (i : Int32) (k : Nat) : am_run d 2 72 ls (.int i :: .ref k :: st) σ τ = am_ai false k i (fun j => am_run d 2 73 ls (.int (σ k j) :: st) σ τ) := rr_iald dX0_findWomen_72
theorem r2_73 (d : Nat) (st : List Value) (σ : am_St) (τ : Int64) (x : Nat) (v1 v2 : Value) : am_run d 2 73 [.ref x, v1, v2] st σ τ = am_run d 2 74 [.ref x, v1, v2] (.ref x :: st) σ τ := rr_aload_n dX0_findWomen_73 rfl
theorem r2_74 (d : Nat) (st : List Value) (σ : am_St) (τ : Int64) (x : Int32) (v0 v2 : Value) : am_run d 2 74 [v0, .int x, v2] st σ τ = am_run d 2 75 [v0, .int x, v2] (.int x :: st) σ τ := rr_iload_n dX0_findWomen_74 rfl
theorem r2_75 (d : Nat) (st : List Value) (σ : am_St) (τ : Int64) (x : Int32) (v0 v1 : Value) : am_run d 2 75 [v0, v1, .int x] st σ τ = am_run d 2 76 [v0, v1, .int x] (.int x :: st) σ τ := rr_iload_n dX0_findWomen_75 rfl
theorem r2_76 (d : Nat) (ls st : List Value) (σ : am_St) (τ : Int64) (k : Nat) (a0 : Int32) (a1 : Int32) (hk : am_kc k = 0) (hc : am_cats st ≤ 8) : am_run (d + 1) 2 76 ls (.int a1 :: .int a0 :: .ref k :: st) σ τ = (am_call d 0 [.ref k, .int a0, .int a1] σ τ).bind (fun r => am_run (d + 1) 2 79 ls (r.1.toList ++ st) r.2.1 r.2.2) := rr_invv [.int a0, .int a1] dX0_findWomen_76 (by decide +kernel) (by decide) rfl (Nat.le_of_ble_eq_true rfl) hk hc
theorem r2_79 (d : Nat) (ls st : List Value) (σ : am_St) (τ : Int64) (x : Int32) : am_run d 2 79 ls (.int x :: st) σ τ = if x = 0 then am_run d 2 88 ls st σ τ else am_run d 2 82 ls st σ τ := (rr_if 88 dX0_findWomen_79 (by decide)).trans am_sel
theorem r2_82 (d : Nat) (ls st : List Value) (σ : am_St) (τ : Int64) : am_run d 2 82 ls st σ τ = am_run d 2 83 ls (.int 1 :: st) σ τ := rr_iconst 1 dX0_findWomen_82 (by decide)
theorem r2_83 (d : Nat) (st : List Value) (σ : am_St) (τ : Int64) (x : Int32) (v0 v1 : Value) : am_run d 2 83 [v0, v1, .int x] st σ τ = am_run d 2 84 [v0, v1, .int x] (.int x :: st) σ τ := rr_iload_n dX0_findWomen_83 rfl
theorem r2_84 (d : Nat) (ls st : List Value) (σ : am_St) (τ : Int64) (x y : Int32) : am_run d 2 84 ls (.int y :: .int x :: st) σ τ = am_run d 2 85 ls (.int (x <<< (y &&& 31)) :: st) σ τ := rr_ishl dX0_findWomen_84
theorem r2_85 (d : Nat) (ls st : List Value) (σ : am_St) (τ : Int64) : am_run d 2 85 ls st σ τ = am_run d 2 89 ls st σ τ := rr_goto 89 dX0_findWomen_85 (by decide)
theorem r2_88 (d : Nat) (ls st : List Value) (σ : am_St) (τ : Int64) : am_run d 2 88 ls st σ τ = am_run d 2 89 ls (.int 0 :: st) σ τ := rr_iconst 0 dX0_findWomen_88 (by decide)
theorem r2_89 (d : Nat) (ls st : List Value) (σ : am_St) (τ : Int64) (x y : Int32) : am_run d 2 89 ls (.int y :: .int x :: st) σ τ = am_run d 2 90 ls (.int (x ||| y) :: st) σ τ := rr_ior dX0_findWomen_89
theorem r2_90 (d : Nat) (ls st : List Value) (σ : am_St) (τ : Int64) (x i : Int32) (k : Nat) : am_run d 2 90 ls (.int x :: .int i :: .ref k :: st) σ τ = am_ai false k i (fun j => am_run d 2 91 ls st (am_up σ k j x) τ) := rr_iast dX0_findWomen_90
theorem r2_91 (d : Nat) (st : List Value) (σ : am_St) (τ : Int64) (x : Int32) (v0 v1 : Value) : am_run d 2 91 [v0, v1, .int x] st σ τ = am_run d 2 94 [v0, am_nl v1, .int (x + 1)] st σ τ := rr_iinc 1 _ dX0_findWomen_91 rfl (by decide) (by decide) (by first | rfl | (by_cases h : v1.category = 2 <;> simp [am_set1, am_nl, h]))
theorem r2_94 (d : Nat) (ls st : List Value) (σ : am_St) (τ : Int64) : am_run d 2 94 ls st σ τ = am_run d 2 43 ls st σ τ := rr_goto 43 dX0_findWomen_94 (by decide)
theorem r2_97 (d : Nat) (st : List Value) (σ : am_St) (τ : Int64) (x : Int32) (v0 v2 : Value) : am_run d 2 97 [v0, .int x, v2] st σ τ = am_run d 2 100 [am_nl v0, .int (x + 1), v2] st σ τ := rr_iinc 1 _ dX0_findWomen_97 rfl (by decide) (by decide) (by first | rfl | (by_cases h : v0.category = 2 <;> simp [am_set1, am_nl, h]))
theorem r2_100 (d : Nat) (ls st : List Value) (σ : am_St) (τ : Int64) : am_run d 2 100 ls st σ τ = am_run d 2 30 ls st σ τ := rr_goto 30 dX0_findWomen_100 (by decide)
theorem r2_103 (d : Nat) (ls : List Value) (σ : am_St) (τ : Int64) : am_run d 2 103 ls [] σ τ = some (none, σ, τ) := rr_vret dX0_findWomen_103 rfl
theorem dX0_leastWife_0 : decode (am_code 3) 0 = .ok (.iconst 0, 1) := by decide +kernel
theorem dX0_leastWife_1 : decode (am_code 3) 1 = .ok (.istore 4, 2) := by decide +kernel
theorem dX0_leastWife_3 : decode (am_code 3) 3 = .ok (.iload 4, 2) := by decide +kernel
theorem dX0_leastWife_5 : decode (am_code 3) 5 = .ok (.aload_n 0, 1) := by decide +kernel
theorem dX0_leastWife_6 : decode (am_code 3) 6 = .ok (.getfield 21, 3) := by decide +kernel
theorem dX0_leastWife_9 : decode (am_code 3) 9 = .ok (.getfield 57, 3) := by decide +kernel
theorem dX0_leastWife_12 : decode (am_code 3) 12 = .ok (.if_icmp .ge 51, 3) := by decide +kernel
theorem dX0_leastWife_15 : decode (am_code 3) 15 = .ok (.iconst 1, 1) := by decide +kernel
theorem dX0_leastWife_16 : decode (am_code 3) 16 = .ok (.iload 4, 2) := by decide +kernel
theorem dX0_leastWife_18 : decode (am_code 3) 18 = .ok (.ishl, 1) := by decide +kernel
theorem dX0_leastWife_19 : decode (am_code 3) 19 = .ok (.istore 5, 2) := by decide +kernel
theorem dX0_leastWife_21 : decode (am_code 3) 21 = .ok (.aload_n 0, 1) := by decide +kernel
theorem dX0_leastWife_22 : decode (am_code 3) 22 = .ok (.getfield 15, 3) := by decide +kernel
theorem dX0_leastWife_25 : decode (am_code 3) 25 = .ok (.iload_n 1, 1) := by decide +kernel
theorem dX0_leastWife_26 : decode (am_code 3) 26 = .ok (.iaload, 1) := by decide +kernel
theorem dX0_leastWife_27 : decode (am_code 3) 27 = .ok (.iload_n 2, 1) := by decide +kernel
theorem dX0_leastWife_28 : decode (am_code 3) 28 = .ok (.iconst (-1), 1) := by decide +kernel
theorem dX0_leastWife_29 : decode (am_code 3) 29 = .ok (.ixor, 1) := by decide +kernel
theorem dX0_leastWife_30 : decode (am_code 3) 30 = .ok (.iand, 1) := by decide +kernel
theorem dX0_leastWife_31 : decode (am_code 3) 31 = .ok (.iload 5, 2) := by decide +kernel
theorem dX0_leastWife_33 : decode (am_code 3) 33 = .ok (.iand, 1) := by decide +kernel
theorem dX0_leastWife_34 : decode (am_code 3) 34 = .ok (.ifCond .eq 23, 3) := by decide +kernel
theorem dX0_leastWife_37 : decode (am_code 3) 37 = .ok (.iconst 1, 1) := by decide +kernel
theorem dX0_leastWife_38 : decode (am_code 3) 38 = .ok (.aload_n 0, 1) := by decide +kernel
theorem dX0_leastWife_39 : decode (am_code 3) 39 = .ok (.iload_n 1, 1) := by decide +kernel
theorem dX0_leastWife_40 : decode (am_code 3) 40 = .ok (.iconst 1, 1) := by decide +kernel
theorem dX0_leastWife_41 : decode (am_code 3) 41 = .ok (.iadd, 1) := by decide +kernel
theorem dX0_leastWife_42 : decode (am_code 3) 42 = .ok (.iload_n 2, 1) := by decide +kernel
theorem dX0_leastWife_43 : decode (am_code 3) 43 = .ok (.iload 5, 2) := by decide +kernel
theorem dX0_leastWife_45 : decode (am_code 3) 45 = .ok (.ior, 1) := by decide +kernel
theorem dX0_leastWife_46 : decode (am_code 3) 46 = .ok (.invokevirtual 50, 3) := by decide +kernel
theorem dX0_leastWife_49 : decode (am_code 3) 49 = .ok (.iadd, 1) := by decide +kernel
theorem dX0_leastWife_50 : decode (am_code 3) 50 = .ok (.iload_n 3, 1) := by decide +kernel
theorem dX0_leastWife_51 : decode (am_code 3) 51 = .ok (.if_icmp .ne 6, 3) := by decide +kernel
theorem dX0_leastWife_54 : decode (am_code 3) 54 = .ok (.iload 4, 2) := by decide +kernel
theorem dX0_leastWife_56 : decode (am_code 3) 56 = .ok (.ireturn, 1) := by decide +kernel
theorem dX0_leastWife_57 : decode (am_code 3) 57 = .ok (.iinc 4 1, 3) := by decide +kernel
theorem dX0_leastWife_60 : decode (am_code 3) 60 = .ok (.goto (-57), 3) := by decide +kernel
theorem dX0_leastWife_63 : decode (am_code 3) 63 = .ok (.iconst (-1), 1) := by decide +kernel
theorem dX0_leastWife_64 : decode (am_code 3) 64 = .ok (.ireturn, 1) := by decide +kernel
theorem r3_0 (d : Nat) (ls st : List Value) (σ : am_St) (τ : Int64) : am_run d 3 0 ls st σ τ = am_run d 3 1 ls (.int 0 :: st) σ τ := rr_iconst 0 dX0_leastWife_0 (by decide)
theorem r3_1 (d : Nat) (st : List Value) (σ : am_St) (τ : Int64) (x : Int32) (v0 v1 v2 v3 v4 v5 : Value) : am_run d 3 1 [v0, v1, v2, v3, v4, v5] (.int x :: st) σ τ = am_run d 3 3 [v0, v1, v2, am_nl v3, .int x, v5] st σ τ := rr_istore _ dX0_leastWife_1 (by decide) (by first | rfl | (by_cases h : v3.category = 2 <;> simp [am_set1, am_nl, h]))
theorem r3_3 (d : Nat) (st : List Value) (σ : am_St) (τ : Int64) (x : Int32) (v0 v1 v2 v3 v5 : Value) : am_run d 3 3 [v0, v1, v2, v3, .int x, v5] st σ τ = am_run d 3 5 [v0, v1, v2, v3, .int x, v5] (.int x :: st) σ τ := rr_iload dX0_leastWife_3 rfl
theorem r3_5 (d : Nat) (st : List Value) (σ : am_St) (τ : Int64) (x : Nat) (v1 v2 v3 v4 v5 : Value) : am_run d 3 5 [.ref x, v1, v2, v3, v4, v5] st σ τ = am_run d 3 6 [.ref x, v1, v2, v3, v4, v5] (.ref x :: st) σ τ := rr_aload_n dX0_leastWife_5 rfl
theorem r3_6 (d : Nat) (ls st : List Value) (σ : am_St) (τ : Int64) (k : Nat) : am_run d 3 6 ls (.ref k :: st) σ τ = am_gf k 0 5 σ τ (fun v => am_run d 3 9 ls (v :: st) σ τ) := rr_getf dX0_leastWife_6 (by decide +kernel)
theorem r3_9 (d : Nat) (ls st : List Value) (σ : am_St) (τ : Int64) (k : Nat) : am_run d 3 9 ls (.ref k :: st) σ τ = am_gf k 1 0 σ τ (fun v => am_run d 3 12 ls (v :: st) σ τ) := rr_getf dX0_leastWife_9 (by decide +kernel)
theorem r3_12 (d : Nat) (ls st : List Value) (σ : am_St) (τ : Int64) (x y : Int32) : am_run d 3 12 ls (.int y :: .int x :: st) σ τ = if y ≤ x then am_run d 3 63 ls st σ τ else am_run d 3 15 ls st σ τ := (rr_icmp 63 dX0_leastWife_12 (by decide)).trans am_sel
theorem r3_15 (d : Nat) (ls st : List Value) (σ : am_St) (τ : Int64) : am_run d 3 15 ls st σ τ = am_run d 3 16 ls (.int 1 :: st) σ τ := rr_iconst 1 dX0_leastWife_15 (by decide)
theorem r3_16 (d : Nat) (st : List Value) (σ : am_St) (τ : Int64) (x : Int32) (v0 v1 v2 v3 v5 : Value) : am_run d 3 16 [v0, v1, v2, v3, .int x, v5] st σ τ = am_run d 3 18 [v0, v1, v2, v3, .int x, v5] (.int x :: st) σ τ := rr_iload dX0_leastWife_16 rfl
theorem r3_18 (d : Nat) (ls st : List Value) (σ : am_St) (τ : Int64) (x y : Int32) : am_run d 3 18 ls (.int y :: .int x :: st) σ τ = am_run d 3 19 ls (.int (x <<< (y &&& 31)) :: st) σ τ := rr_ishl dX0_leastWife_18
theorem r3_19 (d : Nat) (st : List Value) (σ : am_St) (τ : Int64) (x : Int32) (v0 v1 v2 v3 v4 v5 : Value) : am_run d 3 19 [v0, v1, v2, v3, v4, v5] (.int x :: st) σ τ = am_run d 3 21 [v0, v1, v2, v3, am_nl v4, .int x] st σ τ := rr_istore _ dX0_leastWife_19 (by decide) (by first | rfl | (by_cases h : v4.category = 2 <;> simp [am_set1, am_nl, h]))
theorem r3_21 (d : Nat) (st : List Value) (σ : am_St) (τ : Int64) (x : Nat) (v1 v2 v3 v4 v5 : Value) : am_run d 3 21 [.ref x, v1, v2, v3, v4, v5] st σ τ = am_run d 3 22 [.ref x, v1, v2, v3, v4, v5] (.ref x :: st) σ τ := rr_aload_n dX0_leastWife_21 rfl
theorem r3_22 (d : Nat) (ls st : List Value) (σ : am_St) (τ : Int64) (k : Nat) : am_run d 3 22 ls (.ref k :: st) σ τ = am_gf k 0 2 σ τ (fun v => am_run d 3 25 ls (v :: st) σ τ) := rr_getf dX0_leastWife_22 (by decide +kernel)
theorem r3_25 (d : Nat) (st : List Value) (σ : am_St) (τ : Int64) (x : Int32) (v0 v2 v3 v4 v5 : Value) : am_run d 3 25 [v0, .int x, v2, v3, v4, v5] st σ τ = am_run d 3 26 [v0, .int x, v2, v3, v4, v5] (.int x :: st) σ τ := rr_iload_n dX0_leastWife_25 rfl
theorem r3_26 (d : Nat) (ls st : List Value) (σ : am_St) (τ : Int64) (i : Int32) (k : Nat) : am_run d 3 26 ls (.int i :: .ref k :: st) σ τ = am_ai false k i (fun j => am_run d 3 27 ls (.int (σ k j) :: st) σ τ) := rr_iald dX0_leastWife_26
theorem r3_27 (d : Nat) (st : List Value) (σ : am_St) (τ : Int64) (x : Int32) (v0 v1 v3 v4 v5 : Value) : am_run d 3 27 [v0, v1, .int x, v3, v4, v5] st σ τ = am_run d 3 28 [v0, v1, .int x, v3, v4, v5] (.int x :: st) σ τ := rr_iload_n dX0_leastWife_27 rfl
theorem r3_28 (d : Nat) (ls st : List Value) (σ : am_St) (τ : Int64) : am_run d 3 28 ls st σ τ = am_run d 3 29 ls (.int (-1) :: st) σ τ := rr_iconst (-1) dX0_leastWife_28 (by decide)
theorem r3_29 (d : Nat) (ls st : List Value) (σ : am_St) (τ : Int64) (x y : Int32) : am_run d 3 29 ls (.int y :: .int x :: st) σ τ = am_run d 3 30 ls (.int (x ^^^ y) :: st) σ τ := rr_ixor dX0_leastWife_29
theorem r3_30 (d : Nat) (ls st : List Value) (σ : am_St) (τ : Int64) (x y : Int32) : am_run d 3 30 ls (.int y :: .int x :: st) σ τ = am_run d 3 31 ls (.int (x &&& y) :: st) σ τ := rr_iand dX0_leastWife_30
theorem r3_31 (d : Nat) (st : List Value) (σ : am_St) (τ : Int64) (x : Int32) (v0 v1 v2 v3 v4 : Value) : am_run d 3 31 [v0, v1, v2, v3, v4, .int x] st σ τ = am_run d 3 33 [v0, v1, v2, v3, v4, .int x] (.int x :: st) σ τ := rr_iload dX0_leastWife_31 rfl
theorem r3_33 (d : Nat) (ls st : List Value) (σ : am_St) (τ : Int64) (x y : Int32) : am_run d 3 33 ls (.int y :: .int x :: st) σ τ = am_run d 3 34 ls (.int (x &&& y) :: st) σ τ := rr_iand dX0_leastWife_33
theorem r3_34 (d : Nat) (ls st : List Value) (σ : am_St) (τ : Int64) (x : Int32) : am_run d 3 34 ls (.int x :: st) σ τ = if x = 0 then am_run d 3 57 ls st σ τ else am_run d 3 37 ls st σ τ := (rr_if 57 dX0_leastWife_34 (by decide)).trans am_sel
theorem r3_37 (d : Nat) (ls st : List Value) (σ : am_St) (τ : Int64) : am_run d 3 37 ls st σ τ = am_run d 3 38 ls (.int 1 :: st) σ τ := rr_iconst 1 dX0_leastWife_37 (by decide)
theorem r3_38 (d : Nat) (st : List Value) (σ : am_St) (τ : Int64) (x : Nat) (v1 v2 v3 v4 v5 : Value) : am_run d 3 38 [.ref x, v1, v2, v3, v4, v5] st σ τ = am_run d 3 39 [.ref x, v1, v2, v3, v4, v5] (.ref x :: st) σ τ := rr_aload_n dX0_leastWife_38 rfl
theorem r3_39 (d : Nat) (st : List Value) (σ : am_St) (τ : Int64) (x : Int32) (v0 v2 v3 v4 v5 : Value) : am_run d 3 39 [v0, .int x, v2, v3, v4, v5] st σ τ = am_run d 3 40 [v0, .int x, v2, v3, v4, v5] (.int x :: st) σ τ := rr_iload_n dX0_leastWife_39 rfl
theorem r3_40 (d : Nat) (ls st : List Value) (σ : am_St) (τ : Int64) : am_run d 3 40 ls st σ τ = am_run d 3 41 ls (.int 1 :: st) σ τ := rr_iconst 1 dX0_leastWife_40 (by decide)
theorem r3_41 (d : Nat) (ls st : List Value) (σ : am_St) (τ : Int64) (x y : Int32) : am_run d 3 41 ls (.int y :: .int x :: st) σ τ = am_run d 3 42 ls (.int (x + y) :: st) σ τ := rr_iadd dX0_leastWife_41
theorem r3_42 (d : Nat) (st : List Value) (σ : am_St) (τ : Int64) (x : Int32) (v0 v1 v3 v4 v5 : Value) : am_run d 3 42 [v0, v1, .int x, v3, v4, v5] st σ τ = am_run d 3 43 [v0, v1, .int x, v3, v4, v5] (.int x :: st) σ τ := rr_iload_n dX0_leastWife_42 rfl
theorem r3_43 (d : Nat) (st : List Value) (σ : am_St) (τ : Int64) (x : Int32) (v0 v1 v2 v3 v4 : Value) : am_run d 3 43 [v0, v1, v2, v3, v4, .int x] st σ τ = am_run d 3 45 [v0, v1, v2, v3, v4, .int x] (.int x :: st) σ τ := rr_iload dX0_leastWife_43 rfl
theorem r3_45 (d : Nat) (ls st : List Value) (σ : am_St) (τ : Int64) (x y : Int32) : am_run d 3 45 ls (.int y :: .int x :: st) σ τ = am_run d 3 46 ls (.int (x ||| y) :: st) σ τ := rr_ior dX0_leastWife_45
theorem r3_46 (d : Nat) (ls st : List Value) (σ : am_St) (τ : Int64) (k : Nat) (a0 : Int32) (a1 : Int32) (hk : am_kc k = 0) (hc : am_cats st ≤ 8) : am_run (d + 1) 3 46 ls (.int a1 :: .int a0 :: .ref k :: st) σ τ = (am_call d 4 [.ref k, .int a0, .int a1] σ τ).bind (fun r => am_run (d + 1) 3 49 ls (r.1.toList ++ st) r.2.1 r.2.2) := rr_invv [.int a0, .int a1] dX0_leastWife_46 (by decide +kernel) (by decide) rfl (Nat.le_of_ble_eq_true rfl) hk hc
theorem r3_49 (d : Nat) (ls st : List Value) (σ : am_St) (τ : Int64) (x y : Int32) : am_run d 3 49 ls (.int y :: .int x :: st) σ τ = am_run d 3 50 ls (.int (x + y) :: st) σ τ := rr_iadd dX0_leastWife_49
theorem r3_50 (d : Nat) (st : List Value) (σ : am_St) (τ : Int64) (x : Int32) (v0 v1 v2 v4 v5 : Value) : am_run d 3 50 [v0, v1, v2, .int x, v4, v5] st σ τ = am_run d 3 51 [v0, v1, v2, .int x, v4, v5] (.int x :: st) σ τ := rr_iload_n dX0_leastWife_50 rfl
theorem r3_51 (d : Nat) (ls st : List Value) (σ : am_St) (τ : Int64) (x y : Int32) : am_run d 3 51 ls (.int y :: .int x :: st) σ τ = if x = y then am_run d 3 54 ls st σ τ else am_run d 3 57 ls st σ τ := (rr_icmp 57 dX0_leastWife_51 (by decide)).trans am_seln
theorem r3_54 (d : Nat) (st : List Value) (σ : am_St) (τ : Int64) (x : Int32) (v0 v1 v2 v3 v5 : Value) : am_run d 3 54 [v0, v1, v2, v3, .int x, v5] st σ τ = am_run d 3 56 [v0, v1, v2, v3, .int x, v5] (.int x :: st) σ τ := rr_iload dX0_leastWife_54 rfl
theorem r3_56 (d : Nat) (ls : List Value) (σ : am_St) (τ : Int64) (x : Int32) : am_run d 3 56 ls [.int x] σ τ = some (some (.int x), σ, τ) := rr_iret dX0_leastWife_56 rfl
theorem r3_57 (d : Nat) (st : List Value) (σ : am_St) (τ : Int64) (x : Int32) (v0 v1 v2 v3 v5 : Value) : am_run d 3 57 [v0, v1, v2, v3, .int x, v5] st σ τ = am_run d 3 60 [v0, v1, v2, am_nl v3, .int (x + 1), v5] st σ τ := rr_iinc 1 _ dX0_leastWife_57 rfl (by decide) (by decide) (by first | rfl | (by_cases h : v3.category = 2 <;> simp [am_set1, am_nl, h]))
theorem r3_60 (d : Nat) (ls st : List Value) (σ : am_St) (τ : Int64) : am_run d 3 60 ls st σ τ = am_run d 3 3 ls st σ τ := rr_goto 3 dX0_leastWife_60 (by decide)
theorem r3_63 (d : Nat) (ls st : List Value) (σ : am_St) (τ : Int64) : am_run d 3 63 ls st σ τ = am_run d 3 64 ls (.int (-1) :: st) σ τ := rr_iconst (-1) dX0_leastWife_63 (by decide)
theorem r3_64 (d : Nat) (ls : List Value) (σ : am_St) (τ : Int64) (x : Int32) : am_run d 3 64 ls [.int x] σ τ = some (some (.int x), σ, τ) := rr_iret dX0_leastWife_64 rfl
theorem dX0_mostFrom_0 : decode (am_code 4) 0 = .ok (.iconst 0, 1) := by decide +kernel
theorem dX0_mostFrom_1 : decode (am_code 4) 1 = .ok (.istore_n 3, 1) := by decide +kernel
theorem dX0_mostFrom_2 : decode (am_code 4) 2 = .ok (.iload_n 3, 1) := by decide +kernel
theorem dX0_mostFrom_3 : decode (am_code 4) 3 = .ok (.bipush 12, 2) := by decide +kernel
theorem dX0_mostFrom_5 : decode (am_code 4) 5 = .ok (.if_icmp .ge 16, 3) := by decide +kernel
theorem dX0_mostFrom_8 : decode (am_code 4) 8 = .ok (.aload_n 0, 1) := by decide +kernel
theorem dX0_mostFrom_9 : decode (am_code 4) 9 = .ok (.getfield 18, 3) := by decide +kernel
theorem dX0_mostFrom_12 : decode (am_code 4) 12 = .ok (.iload_n 3, 1) := by decide +kernel
theorem dX0_mostFrom_13 : decode (am_code 4) 13 = .ok (.iconst (-1), 1) := by decide +kernel
theorem dX0_mostFrom_14 : decode (am_code 4) 14 = .ok (.iastore, 1) := by decide +kernel
theorem dX0_mostFrom_15 : decode (am_code 4) 15 = .ok (.iinc 3 1, 3) := by decide +kernel
theorem dX0_mostFrom_18 : decode (am_code 4) 18 = .ok (.goto (-16), 3) := by decide +kernel
theorem dX0_mostFrom_21 : decode (am_code 4) 21 = .ok (.iconst 0, 1) := by decide +kernel
theorem dX0_mostFrom_22 : decode (am_code 4) 22 = .ok (.istore_n 3, 1) := by decide +kernel
theorem dX0_mostFrom_23 : decode (am_code 4) 23 = .ok (.iload_n 1, 1) := by decide +kernel
theorem dX0_mostFrom_24 : decode (am_code 4) 24 = .ok (.istore 4, 2) := by decide +kernel
theorem dX0_mostFrom_26 : decode (am_code 4) 26 = .ok (.iload 4, 2) := by decide +kernel
theorem dX0_mostFrom_28 : decode (am_code 4) 28 = .ok (.aload_n 0, 1) := by decide +kernel
theorem dX0_mostFrom_29 : decode (am_code 4) 29 = .ok (.getfield 21, 3) := by decide +kernel
theorem dX0_mostFrom_32 : decode (am_code 4) 32 = .ok (.getfield 57, 3) := by decide +kernel
theorem dX0_mostFrom_35 : decode (am_code 4) 35 = .ok (.if_icmp .ge 32, 3) := by decide +kernel
theorem dX0_mostFrom_38 : decode (am_code 4) 38 = .ok (.aload_n 0, 1) := by decide +kernel
theorem dX0_mostFrom_39 : decode (am_code 4) 39 = .ok (.iload_n 2, 1) := by decide +kernel
theorem dX0_mostFrom_40 : decode (am_code 4) 40 = .ok (.putfield 68, 3) := by decide +kernel
theorem dX0_mostFrom_43 : decode (am_code 4) 43 = .ok (.iload_n 3, 1) := by decide +kernel
theorem dX0_mostFrom_44 : decode (am_code 4) 44 = .ok (.aload_n 0, 1) := by decide +kernel
theorem dX0_mostFrom_45 : decode (am_code 4) 45 = .ok (.iload 4, 2) := by decide +kernel
theorem dX0_mostFrom_47 : decode (am_code 4) 47 = .ok (.iconst 0, 1) := by decide +kernel
theorem dX0_mostFrom_48 : decode (am_code 4) 48 = .ok (.invokestatic 71, 3) := by decide +kernel
theorem dX0_mostFrom_51 : decode (am_code 4) 51 = .ok (.ifCond .eq 7, 3) := by decide +kernel
theorem dX0_mostFrom_54 : decode (am_code 4) 54 = .ok (.iconst 1, 1) := by decide +kernel
theorem dX0_mostFrom_55 : decode (am_code 4) 55 = .ok (.goto 4, 3) := by decide +kernel
theorem dX0_mostFrom_58 : decode (am_code 4) 58 = .ok (.iconst 0, 1) := by decide +kernel
theorem dX0_mostFrom_59 : decode (am_code 4) 59 = .ok (.iadd, 1) := by decide +kernel
theorem dX0_mostFrom_60 : decode (am_code 4) 60 = .ok (.istore_n 3, 1) := by decide +kernel
theorem dX0_mostFrom_61 : decode (am_code 4) 61 = .ok (.iinc 4 1, 3) := by decide +kernel
theorem dX0_mostFrom_64 : decode (am_code 4) 64 = .ok (.goto (-38), 3) := by decide +kernel
theorem dX0_mostFrom_67 : decode (am_code 4) 67 = .ok (.iload_n 3, 1) := by decide +kernel
theorem dX0_mostFrom_68 : decode (am_code 4) 68 = .ok (.ireturn, 1) := by decide +kernel
theorem r4_0 (d : Nat) (ls st : List Value) (σ : am_St) (τ : Int64) : am_run d 4 0 ls st σ τ = am_run d 4 1 ls (.int 0 :: st) σ τ := rr_iconst 0 dX0_mostFrom_0 (by decide)
theorem r4_1 (d : Nat) (st : List Value) (σ : am_St) (τ : Int64) (x : Int32) (v0 v1 v2 v3 v4 : Value) : am_run d 4 1 [v0, v1, v2, v3, v4] (.int x :: st) σ τ = am_run d 4 2 [v0, v1, am_nl v2, .int x, v4] st σ τ := rr_istore_n _ dX0_mostFrom_1 (by decide) (by first | rfl | (by_cases h : v2.category = 2 <;> simp [am_set1, am_nl, h]))
theorem r4_2 (d : Nat) (st : List Value) (σ : am_St) (τ : Int64) (x : Int32) (v0 v1 v2 v4 : Value) : am_run d 4 2 [v0, v1, v2, .int x, v4] st σ τ = am_run d 4 3 [v0, v1, v2, .int x, v4] (.int x :: st) σ τ := rr_iload_n dX0_mostFrom_2 rfl
theorem r4_3 (d : Nat) (ls st : List Value) (σ : am_St) (τ : Int64) : am_run d 4 3 ls st σ τ = am_run d 4 5 ls (.int 12 :: st) σ τ := rr_bipush 12 dX0_mostFrom_3 (by decide)
theorem r4_5 (d : Nat) (ls st : List Value) (σ : am_St) (τ : Int64) (x y : Int32) : am_run d 4 5 ls (.int y :: .int x :: st) σ τ = if y ≤ x then am_run d 4 21 ls st σ τ else am_run d 4 8 ls st σ τ := (rr_icmp 21 dX0_mostFrom_5 (by decide)).trans am_sel
theorem r4_8 (d : Nat) (st : List Value) (σ : am_St) (τ : Int64) (x : Nat) (v1 v2 v3 v4 : Value) : am_run d 4 8 [.ref x, v1, v2, v3, v4] st σ τ = am_run d 4 9 [.ref x, v1, v2, v3, v4] (.ref x :: st) σ τ := rr_aload_n dX0_mostFrom_8 rfl
theorem r4_9 (d : Nat) (ls st : List Value) (σ : am_St) (τ : Int64) (k : Nat) : am_run d 4 9 ls (.ref k :: st) σ τ = am_gf k 0 3 σ τ (fun v => am_run d 4 12 ls (v :: st) σ τ) := rr_getf dX0_mostFrom_9 (by decide +kernel)
theorem r4_12 (d : Nat) (st : List Value) (σ : am_St) (τ : Int64) (x : Int32) (v0 v1 v2 v4 : Value) : am_run d 4 12 [v0, v1, v2, .int x, v4] st σ τ = am_run d 4 13 [v0, v1, v2, .int x, v4] (.int x :: st) σ τ := rr_iload_n dX0_mostFrom_12 rfl
theorem r4_13 (d : Nat) (ls st : List Value) (σ : am_St) (τ : Int64) : am_run d 4 13 ls st σ τ = am_run d 4 14 ls (.int (-1) :: st) σ τ := rr_iconst (-1) dX0_mostFrom_13 (by decide)
theorem r4_14 (d : Nat) (ls st : List Value) (σ : am_St) (τ : Int64) (x i : Int32) (k : Nat) : am_run d 4 14 ls (.int x :: .int i :: .ref k :: st) σ τ = am_ai false k i (fun j => am_run d 4 15 ls st (am_up σ k j x) τ) := rr_iast dX0_mostFrom_14
theorem r4_15 (d : Nat) (st : List Value) (σ : am_St) (τ : Int64) (x : Int32) (v0 v1 v2 v4 : Value) : am_run d 4 15 [v0, v1, v2, .int x, v4] st σ τ = am_run d 4 18 [v0, v1, am_nl v2, .int (x + 1), v4] st σ τ := rr_iinc 1 _ dX0_mostFrom_15 rfl (by decide) (by decide) (by first | rfl | (by_cases h : v2.category = 2 <;> simp [am_set1, am_nl, h]))
theorem r4_18 (d : Nat) (ls st : List Value) (σ : am_St) (τ : Int64) : am_run d 4 18 ls st σ τ = am_run d 4 2 ls st σ τ := rr_goto 2 dX0_mostFrom_18 (by decide)
theorem r4_21 (d : Nat) (ls st : List Value) (σ : am_St) (τ : Int64) : am_run d 4 21 ls st σ τ = am_run d 4 22 ls (.int 0 :: st) σ τ := rr_iconst 0 dX0_mostFrom_21 (by decide)
theorem r4_22 (d : Nat) (st : List Value) (σ : am_St) (τ : Int64) (x : Int32) (v0 v1 v2 v3 v4 : Value) : am_run d 4 22 [v0, v1, v2, v3, v4] (.int x :: st) σ τ = am_run d 4 23 [v0, v1, am_nl v2, .int x, v4] st σ τ := rr_istore_n _ dX0_mostFrom_22 (by decide) (by first | rfl | (by_cases h : v2.category = 2 <;> simp [am_set1, am_nl, h]))
theorem r4_23 (d : Nat) (st : List Value) (σ : am_St) (τ : Int64) (x : Int32) (v0 v2 v3 v4 : Value) : am_run d 4 23 [v0, .int x, v2, v3, v4] st σ τ = am_run d 4 24 [v0, .int x, v2, v3, v4] (.int x :: st) σ τ := rr_iload_n dX0_mostFrom_23 rfl
theorem r4_24 (d : Nat) (st : List Value) (σ : am_St) (τ : Int64) (x : Int32) (v0 v1 v2 v3 v4 : Value) : am_run d 4 24 [v0, v1, v2, v3, v4] (.int x :: st) σ τ = am_run d 4 26 [v0, v1, v2, am_nl v3, .int x] st σ τ := rr_istore _ dX0_mostFrom_24 (by decide) (by first | rfl | (by_cases h : v3.category = 2 <;> simp [am_set1, am_nl, h]))
theorem r4_26 (d : Nat) (st : List Value) (σ : am_St) (τ : Int64) (x : Int32) (v0 v1 v2 v3 : Value) : am_run d 4 26 [v0, v1, v2, v3, .int x] st σ τ = am_run d 4 28 [v0, v1, v2, v3, .int x] (.int x :: st) σ τ := rr_iload dX0_mostFrom_26 rfl
theorem r4_28 (d : Nat) (st : List Value) (σ : am_St) (τ : Int64) (x : Nat) (v1 v2 v3 v4 : Value) : am_run d 4 28 [.ref x, v1, v2, v3, v4] st σ τ = am_run d 4 29 [.ref x, v1, v2, v3, v4] (.ref x :: st) σ τ := rr_aload_n dX0_mostFrom_28 rfl
theorem r4_29 (d : Nat) (ls st : List Value) (σ : am_St) (τ : Int64) (k : Nat) : am_run d 4 29 ls (.ref k :: st) σ τ = am_gf k 0 5 σ τ (fun v => am_run d 4 32 ls (v :: st) σ τ) := rr_getf dX0_mostFrom_29 (by decide +kernel)
theorem r4_32 (d : Nat) (ls st : List Value) (σ : am_St) (τ : Int64) (k : Nat) : am_run d 4 32 ls (.ref k :: st) σ τ = am_gf k 1 0 σ τ (fun v => am_run d 4 35 ls (v :: st) σ τ) := rr_getf dX0_mostFrom_32 (by decide +kernel)
theorem r4_35 (d : Nat) (ls st : List Value) (σ : am_St) (τ : Int64) (x y : Int32) : am_run d 4 35 ls (.int y :: .int x :: st) σ τ = if y ≤ x then am_run d 4 67 ls st σ τ else am_run d 4 38 ls st σ τ := (rr_icmp 67 dX0_mostFrom_35 (by decide)).trans am_sel
theorem r4_38 (d : Nat) (st : List Value) (σ : am_St) (τ : Int64) (x : Nat) (v1 v2 v3 v4 : Value) : am_run d 4 38 [.ref x, v1, v2, v3, v4] st σ τ = am_run d 4 39 [.ref x, v1, v2, v3, v4] (.ref x :: st) σ τ := rr_aload_n dX0_mostFrom_38 rfl
theorem r4_39 (d : Nat) (st : List Value) (σ : am_St) (τ : Int64) (x : Int32) (v0 v1 v3 v4 : Value) : am_run d 4 39 [v0, v1, .int x, v3, v4] st σ τ = am_run d 4 40 [v0, v1, .int x, v3, v4] (.int x :: st) σ τ := rr_iload_n dX0_mostFrom_39 rfl
theorem r4_40 (d : Nat) (ls st : List Value) (σ : am_St) (τ : Int64) (k : Nat) (x : Int32) : am_run d 4 40 ls (.int x :: .ref k :: st) σ τ = am_pf k 0 4 x σ (fun σ => am_run d 4 43 ls st σ τ) := rr_putf dX0_mostFrom_40 (by decide +kernel)
theorem r4_43 (d : Nat) (st : List Value) (σ : am_St) (τ : Int64) (x : Int32) (v0 v1 v2 v4 : Value) : am_run d 4 43 [v0, v1, v2, .int x, v4] st σ τ = am_run d 4 44 [v0, v1, v2, .int x, v4] (.int x :: st) σ τ := rr_iload_n dX0_mostFrom_43 rfl
theorem r4_44 (d : Nat) (st : List Value) (σ : am_St) (τ : Int64) (x : Nat) (v1 v2 v3 v4 : Value) : am_run d 4 44 [.ref x, v1, v2, v3, v4] st σ τ = am_run d 4 45 [.ref x, v1, v2, v3, v4] (.ref x :: st) σ τ := rr_aload_n dX0_mostFrom_44 rfl
theorem r4_45 (d : Nat) (st : List Value) (σ : am_St) (τ : Int64) (x : Int32) (v0 v1 v2 v3 : Value) : am_run d 4 45 [v0, v1, v2, v3, .int x] st σ τ = am_run d 4 47 [v0, v1, v2, v3, .int x] (.int x :: st) σ τ := rr_iload dX0_mostFrom_45 rfl
theorem r4_47 (d : Nat) (ls st : List Value) (σ : am_St) (τ : Int64) : am_run d 4 47 ls st σ τ = am_run d 4 48 ls (.int 0 :: st) σ τ := rr_iconst 0 dX0_mostFrom_47 (by decide)
theorem r4_48 (d : Nat) (ls st : List Value) (σ : am_St) (τ : Int64) (a0 : Nat) (a1 : Int32) (a2 : Int32) (hc : am_cats st ≤ 8) : am_run (d + 1) 4 48 ls (.int a2 :: .int a1 :: .ref a0 :: st) σ τ = (am_call d 5 [.ref a0, .int a1, .int a2] σ τ).bind (fun r => am_run (d + 1) 4 51 ls (r.1.toList ++ st) r.2.1 r.2.2) := rr_invs [.ref a0, .int a1, .int a2] dX0_mostFrom_48 (by decide +kernel) (by decide +kernel) (by decide) rfl (Nat.le_of_ble_eq_true rfl) hc
theorem r4_51 (d : Nat) (ls st : List Value) (σ : am_St) (τ : Int64) (x : Int32) : am_run d 4 51 ls (.int x :: st) σ τ = if x = 0 then am_run d 4 58 ls st σ τ else am_run d 4 54 ls st σ τ := (rr_if 58 dX0_mostFrom_51 (by decide)).trans am_sel
theorem r4_54 (d : Nat) (ls st : List Value) (σ : am_St) (τ : Int64) : am_run d 4 54 ls st σ τ = am_run d 4 55 ls (.int 1 :: st) σ τ := rr_iconst 1 dX0_mostFrom_54 (by decide)
theorem r4_55 (d : Nat) (ls st : List Value) (σ : am_St) (τ : Int64) : am_run d 4 55 ls st σ τ = am_run d 4 59 ls st σ τ := rr_goto 59 dX0_mostFrom_55 (by decide)
theorem r4_58 (d : Nat) (ls st : List Value) (σ : am_St) (τ : Int64) : am_run d 4 58 ls st σ τ = am_run d 4 59 ls (.int 0 :: st) σ τ := rr_iconst 0 dX0_mostFrom_58 (by decide)
theorem r4_59 (d : Nat) (ls st : List Value) (σ : am_St) (τ : Int64) (x y : Int32) : am_run d 4 59 ls (.int y :: .int x :: st) σ τ = am_run d 4 60 ls (.int (x + y) :: st) σ τ := rr_iadd dX0_mostFrom_59
theorem r4_60 (d : Nat) (st : List Value) (σ : am_St) (τ : Int64) (x : Int32) (v0 v1 v2 v3 v4 : Value) : am_run d 4 60 [v0, v1, v2, v3, v4] (.int x :: st) σ τ = am_run d 4 61 [v0, v1, am_nl v2, .int x, v4] st σ τ := rr_istore_n _ dX0_mostFrom_60 (by decide) (by first | rfl | (by_cases h : v2.category = 2 <;> simp [am_set1, am_nl, h]))
theorem r4_61 (d : Nat) (st : List Value) (σ : am_St) (τ : Int64) (x : Int32) (v0 v1 v2 v3 : Value) : am_run d 4 61 [v0, v1, v2, v3, .int x] st σ τ = am_run d 4 64 [v0, v1, v2, am_nl v3, .int (x + 1)] st σ τ := rr_iinc 1 _ dX0_mostFrom_61 rfl (by decide) (by decide) (by first | rfl | (by_cases h : v3.category = 2 <;> simp [am_set1, am_nl, h]))
theorem r4_64 (d : Nat) (ls st : List Value) (σ : am_St) (τ : Int64) : am_run d 4 64 ls st σ τ = am_run d 4 26 ls st σ τ := rr_goto 26 dX0_mostFrom_64 (by decide)
theorem r4_67 (d : Nat) (st : List Value) (σ : am_St) (τ : Int64) (x : Int32) (v0 v1 v2 v4 : Value) : am_run d 4 67 [v0, v1, v2, .int x, v4] st σ τ = am_run d 4 68 [v0, v1, v2, .int x, v4] (.int x :: st) σ τ := rr_iload_n dX0_mostFrom_67 rfl
theorem r4_68 (d : Nat) (ls : List Value) (σ : am_St) (τ : Int64) (x : Int32) : am_run d 4 68 ls [.int x] σ τ = some (some (.int x), σ, τ) := rr_iret dX0_mostFrom_68 rfl
theorem dX0_findsWife_0 : decode (am_code 5) 0 = .ok (.iload_n 1, 1) := by decide +kernel
theorem dX0_findsWife_1 : decode (am_code 5) 1 = .ok (.ifCond .lt 9, 3) := by decide +kernel
theorem dX0_findsWife_4 : decode (am_code 5) 4 = .ok (.iload_n 2, 1) := by decide +kernel
theorem dX0_findsWife_5 : decode (am_code 5) 5 = .ok (.bipush 12, 2) := by decide +kernel
theorem dX0_findsWife_7 : decode (am_code 5) 7 = .ok (.if_icmp .le 5, 3) := by decide +kernel
theorem dX0_findsWife_10 : decode (am_code 5) 10 = .ok (.iconst 0, 1) := by decide +kernel
theorem dX0_findsWife_11 : decode (am_code 5) 11 = .ok (.ireturn, 1) := by decide +kernel
theorem dX0_findsWife_12 : decode (am_code 5) 12 = .ok (.iconst 0, 1) := by decide +kernel
theorem dX0_findsWife_13 : decode (am_code 5) 13 = .ok (.istore_n 3, 1) := by decide +kernel
theorem dX0_findsWife_14 : decode (am_code 5) 14 = .ok (.iload_n 3, 1) := by decide +kernel
theorem dX0_findsWife_15 : decode (am_code 5) 15 = .ok (.aload_n 0, 1) := by decide +kernel
theorem dX0_findsWife_16 : decode (am_code 5) 16 = .ok (.getfield 21, 3) := by decide +kernel
theorem dX0_findsWife_19 : decode (am_code 5) 19 = .ok (.getfield 57, 3) := by decide +kernel
theorem dX0_findsWife_22 : decode (am_code 5) 22 = .ok (.if_icmp .ge 79, 3) := by decide +kernel
theorem dX0_findsWife_25 : decode (am_code 5) 25 = .ok (.iconst 1, 1) := by decide +kernel
theorem dX0_findsWife_26 : decode (am_code 5) 26 = .ok (.iload_n 3, 1) := by decide +kernel
theorem dX0_findsWife_27 : decode (am_code 5) 27 = .ok (.ishl, 1) := by decide +kernel
theorem dX0_findsWife_28 : decode (am_code 5) 28 = .ok (.istore 4, 2) := by decide +kernel
theorem dX0_findsWife_30 : decode (am_code 5) 30 = .ok (.aload_n 0, 1) := by decide +kernel
theorem dX0_findsWife_31 : decode (am_code 5) 31 = .ok (.getfield 15, 3) := by decide +kernel
theorem dX0_findsWife_34 : decode (am_code 5) 34 = .ok (.iload_n 1, 1) := by decide +kernel
theorem dX0_findsWife_35 : decode (am_code 5) 35 = .ok (.iaload, 1) := by decide +kernel
theorem dX0_findsWife_36 : decode (am_code 5) 36 = .ok (.aload_n 0, 1) := by decide +kernel
theorem dX0_findsWife_37 : decode (am_code 5) 37 = .ok (.getfield 68, 3) := by decide +kernel
theorem dX0_findsWife_40 : decode (am_code 5) 40 = .ok (.iconst (-1), 1) := by decide +kernel
theorem dX0_findsWife_41 : decode (am_code 5) 41 = .ok (.ixor, 1) := by decide +kernel
theorem dX0_findsWife_42 : decode (am_code 5) 42 = .ok (.iand, 1) := by decide +kernel
theorem dX0_findsWife_43 : decode (am_code 5) 43 = .ok (.iload 4, 2) := by decide +kernel
theorem dX0_findsWife_45 : decode (am_code 5) 45 = .ok (.iand, 1) := by decide +kernel
theorem dX0_findsWife_46 : decode (am_code 5) 46 = .ok (.ifCond .eq 49, 3) := by decide +kernel
theorem dX0_findsWife_49 : decode (am_code 5) 49 = .ok (.aload_n 0, 1) := by decide +kernel
theorem dX0_findsWife_50 : decode (am_code 5) 50 = .ok (.dup, 1) := by decide +kernel
theorem dX0_findsWife_51 : decode (am_code 5) 51 = .ok (.getfield 68, 3) := by decide +kernel
theorem dX0_findsWife_54 : decode (am_code 5) 54 = .ok (.iload 4, 2) := by decide +kernel
theorem dX0_findsWife_56 : decode (am_code 5) 56 = .ok (.ior, 1) := by decide +kernel
theorem dX0_findsWife_57 : decode (am_code 5) 57 = .ok (.putfield 68, 3) := by decide +kernel
theorem dX0_findsWife_60 : decode (am_code 5) 60 = .ok (.aload_n 0, 1) := by decide +kernel
theorem dX0_findsWife_61 : decode (am_code 5) 61 = .ok (.getfield 18, 3) := by decide +kernel
theorem dX0_findsWife_64 : decode (am_code 5) 64 = .ok (.iload_n 3, 1) := by decide +kernel
theorem dX0_findsWife_65 : decode (am_code 5) 65 = .ok (.iaload, 1) := by decide +kernel
theorem dX0_findsWife_66 : decode (am_code 5) 66 = .ok (.iconst (-1), 1) := by decide +kernel
theorem dX0_findsWife_67 : decode (am_code 5) 67 = .ok (.if_icmp .eq 19, 3) := by decide +kernel
theorem dX0_findsWife_70 : decode (am_code 5) 70 = .ok (.aload_n 0, 1) := by decide +kernel
theorem dX0_findsWife_71 : decode (am_code 5) 71 = .ok (.aload_n 0, 1) := by decide +kernel
theorem dX0_findsWife_72 : decode (am_code 5) 72 = .ok (.getfield 18, 3) := by decide +kernel
theorem dX0_findsWife_75 : decode (am_code 5) 75 = .ok (.iload_n 3, 1) := by decide +kernel
theorem dX0_findsWife_76 : decode (am_code 5) 76 = .ok (.iaload, 1) := by decide +kernel
theorem dX0_findsWife_77 : decode (am_code 5) 77 = .ok (.iload_n 2, 1) := by decide +kernel
theorem dX0_findsWife_78 : decode (am_code 5) 78 = .ok (.iconst 1, 1) := by decide +kernel
theorem dX0_findsWife_79 : decode (am_code 5) 79 = .ok (.iadd, 1) := by decide +kernel
theorem dX0_findsWife_80 : decode (am_code 5) 80 = .ok (.invokestatic 71, 3) := by decide +kernel
theorem dX0_findsWife_83 : decode (am_code 5) 83 = .ok (.ifCond .eq 12, 3) := by decide +kernel
theorem dX0_findsWife_86 : decode (am_code 5) 86 = .ok (.aload_n 0, 1) := by decide +kernel
theorem dX0_findsWife_87 : decode (am_code 5) 87 = .ok (.getfield 18, 3) := by decide +kernel
theorem dX0_findsWife_90 : decode (am_code 5) 90 = .ok (.iload_n 3, 1) := by decide +kernel
theorem dX0_findsWife_91 : decode (am_code 5) 91 = .ok (.iload_n 1, 1) := by decide +kernel
theorem dX0_findsWife_92 : decode (am_code 5) 92 = .ok (.iastore, 1) := by decide +kernel
theorem dX0_findsWife_93 : decode (am_code 5) 93 = .ok (.iconst 1, 1) := by decide +kernel
theorem dX0_findsWife_94 : decode (am_code 5) 94 = .ok (.ireturn, 1) := by decide +kernel
theorem dX0_findsWife_95 : decode (am_code 5) 95 = .ok (.iinc 3 1, 3) := by decide +kernel
theorem dX0_findsWife_98 : decode (am_code 5) 98 = .ok (.goto (-84), 3) := by decide +kernel
theorem dX0_findsWife_101 : decode (am_code 5) 101 = .ok (.iconst 0, 1) := by decide +kernel
theorem dX0_findsWife_102 : decode (am_code 5) 102 = .ok (.ireturn, 1) := by decide +kernel
theorem r5_0 (d : Nat) (st : List Value) (σ : am_St) (τ : Int64) (x : Int32) (v0 v2 v3 v4 : Value) : am_run d 5 0 [v0, .int x, v2, v3, v4] st σ τ = am_run d 5 1 [v0, .int x, v2, v3, v4] (.int x :: st) σ τ := rr_iload_n dX0_findsWife_0 rfl
theorem r5_1 (d : Nat) (ls st : List Value) (σ : am_St) (τ : Int64) (x : Int32) : am_run d 5 1 ls (.int x :: st) σ τ = if x < 0 then am_run d 5 10 ls st σ τ else am_run d 5 4 ls st σ τ := (rr_if 10 dX0_findsWife_1 (by decide)).trans am_sel
theorem r5_4 (d : Nat) (st : List Value) (σ : am_St) (τ : Int64) (x : Int32) (v0 v1 v3 v4 : Value) : am_run d 5 4 [v0, v1, .int x, v3, v4] st σ τ = am_run d 5 5 [v0, v1, .int x, v3, v4] (.int x :: st) σ τ := rr_iload_n dX0_findsWife_4 rfl
theorem r5_5 (d : Nat) (ls st : List Value) (σ : am_St) (τ : Int64) : am_run d 5 5 ls st σ τ = am_run d 5 7 ls (.int 12 :: st) σ τ := rr_bipush 12 dX0_findsWife_5 (by decide)
theorem r5_7 (d : Nat) (ls st : List Value) (σ : am_St) (τ : Int64) (x y : Int32) : am_run d 5 7 ls (.int y :: .int x :: st) σ τ = if x ≤ y then am_run d 5 12 ls st σ τ else am_run d 5 10 ls st σ τ := (rr_icmp 12 dX0_findsWife_7 (by decide)).trans am_sel
theorem r5_10 (d : Nat) (ls st : List Value) (σ : am_St) (τ : Int64) : am_run d 5 10 ls st σ τ = am_run d 5 11 ls (.int 0 :: st) σ τ := rr_iconst 0 dX0_findsWife_10 (by decide)
theorem r5_11 (d : Nat) (ls : List Value) (σ : am_St) (τ : Int64) (x : Int32) (hx : x = 0 ∨ x = 1) : am_run d 5 11 ls [.int x] σ τ = some (some (.int x), σ, τ) := rr_zret dX0_findsWife_11 rfl hx
theorem r5_12 (d : Nat) (ls st : List Value) (σ : am_St) (τ : Int64) : am_run d 5 12 ls st σ τ = am_run d 5 13 ls (.int 0 :: st) σ τ := rr_iconst 0 dX0_findsWife_12 (by decide)
theorem r5_13 (d : Nat) (st : List Value) (σ : am_St) (τ : Int64) (x : Int32) (v0 v1 v2 v3 v4 : Value) : am_run d 5 13 [v0, v1, v2, v3, v4] (.int x :: st) σ τ = am_run d 5 14 [v0, v1, am_nl v2, .int x, v4] st σ τ := rr_istore_n _ dX0_findsWife_13 (by decide) (by first | rfl | (by_cases h : v2.category = 2 <;> simp [am_set1, am_nl, h]))
theorem r5_14 (d : Nat) (st : List Value) (σ : am_St) (τ : Int64) (x : Int32) (v0 v1 v2 v4 : Value) : am_run d 5 14 [v0, v1, v2, .int x, v4] st σ τ = am_run d 5 15 [v0, v1, v2, .int x, v4] (.int x :: st) σ τ := rr_iload_n dX0_findsWife_14 rfl
theorem r5_15 (d : Nat) (st : List Value) (σ : am_St) (τ : Int64) (x : Nat) (v1 v2 v3 v4 : Value) : am_run d 5 15 [.ref x, v1, v2, v3, v4] st σ τ = am_run d 5 16 [.ref x, v1, v2, v3, v4] (.ref x :: st) σ τ := rr_aload_n dX0_findsWife_15 rfl
theorem r5_16 (d : Nat) (ls st : List Value) (σ : am_St) (τ : Int64) (k : Nat) : am_run d 5 16 ls (.ref k :: st) σ τ = am_gf k 0 5 σ τ (fun v => am_run d 5 19 ls (v :: st) σ τ) := rr_getf dX0_findsWife_16 (by decide +kernel)
theorem r5_19 (d : Nat) (ls st : List Value) (σ : am_St) (τ : Int64) (k : Nat) : am_run d 5 19 ls (.ref k :: st) σ τ = am_gf k 1 0 σ τ (fun v => am_run d 5 22 ls (v :: st) σ τ) := rr_getf dX0_findsWife_19 (by decide +kernel)
theorem r5_22 (d : Nat) (ls st : List Value) (σ : am_St) (τ : Int64) (x y : Int32) : am_run d 5 22 ls (.int y :: .int x :: st) σ τ = if y ≤ x then am_run d 5 101 ls st σ τ else am_run d 5 25 ls st σ τ := (rr_icmp 101 dX0_findsWife_22 (by decide)).trans am_sel
theorem r5_25 (d : Nat) (ls st : List Value) (σ : am_St) (τ : Int64) : am_run d 5 25 ls st σ τ = am_run d 5 26 ls (.int 1 :: st) σ τ := rr_iconst 1 dX0_findsWife_25 (by decide)
theorem r5_26 (d : Nat) (st : List Value) (σ : am_St) (τ : Int64) (x : Int32) (v0 v1 v2 v4 : Value) : am_run d 5 26 [v0, v1, v2, .int x, v4] st σ τ = am_run d 5 27 [v0, v1, v2, .int x, v4] (.int x :: st) σ τ := rr_iload_n dX0_findsWife_26 rfl
theorem r5_27 (d : Nat) (ls st : List Value) (σ : am_St) (τ : Int64) (x y : Int32) : am_run d 5 27 ls (.int y :: .int x :: st) σ τ = am_run d 5 28 ls (.int (x <<< (y &&& 31)) :: st) σ τ := rr_ishl dX0_findsWife_27
theorem r5_28 (d : Nat) (st : List Value) (σ : am_St) (τ : Int64) (x : Int32) (v0 v1 v2 v3 v4 : Value) : am_run d 5 28 [v0, v1, v2, v3, v4] (.int x :: st) σ τ = am_run d 5 30 [v0, v1, v2, am_nl v3, .int x] st σ τ := rr_istore _ dX0_findsWife_28 (by decide) (by first | rfl | (by_cases h : v3.category = 2 <;> simp [am_set1, am_nl, h]))
theorem r5_30 (d : Nat) (st : List Value) (σ : am_St) (τ : Int64) (x : Nat) (v1 v2 v3 v4 : Value) : am_run d 5 30 [.ref x, v1, v2, v3, v4] st σ τ = am_run d 5 31 [.ref x, v1, v2, v3, v4] (.ref x :: st) σ τ := rr_aload_n dX0_findsWife_30 rfl
theorem r5_31 (d : Nat) (ls st : List Value) (σ : am_St) (τ : Int64) (k : Nat) : am_run d 5 31 ls (.ref k :: st) σ τ = am_gf k 0 2 σ τ (fun v => am_run d 5 34 ls (v :: st) σ τ) := rr_getf dX0_findsWife_31 (by decide +kernel)
theorem r5_34 (d : Nat) (st : List Value) (σ : am_St) (τ : Int64) (x : Int32) (v0 v2 v3 v4 : Value) : am_run d 5 34 [v0, .int x, v2, v3, v4] st σ τ = am_run d 5 35 [v0, .int x, v2, v3, v4] (.int x :: st) σ τ := rr_iload_n dX0_findsWife_34 rfl
theorem r5_35 (d : Nat) (ls st : List Value) (σ : am_St) (τ : Int64) (i : Int32) (k : Nat) : am_run d 5 35 ls (.int i :: .ref k :: st) σ τ = am_ai false k i (fun j => am_run d 5 36 ls (.int (σ k j) :: st) σ τ) := rr_iald dX0_findsWife_35
theorem r5_36 (d : Nat) (st : List Value) (σ : am_St) (τ : Int64) (x : Nat) (v1 v2 v3 v4 : Value) : am_run d 5 36 [.ref x, v1, v2, v3, v4] st σ τ = am_run d 5 37 [.ref x, v1, v2, v3, v4] (.ref x :: st) σ τ := rr_aload_n dX0_findsWife_36 rfl
theorem r5_37 (d : Nat) (ls st : List Value) (σ : am_St) (τ : Int64) (k : Nat) : am_run d 5 37 ls (.ref k :: st) σ τ = am_gf k 0 4 σ τ (fun v => am_run d 5 40 ls (v :: st) σ τ) := rr_getf dX0_findsWife_37 (by decide +kernel)
theorem r5_40 (d : Nat) (ls st : List Value) (σ : am_St) (τ : Int64) : am_run d 5 40 ls st σ τ = am_run d 5 41 ls (.int (-1) :: st) σ τ := rr_iconst (-1) dX0_findsWife_40 (by decide)
theorem r5_41 (d : Nat) (ls st : List Value) (σ : am_St) (τ : Int64) (x y : Int32) : am_run d 5 41 ls (.int y :: .int x :: st) σ τ = am_run d 5 42 ls (.int (x ^^^ y) :: st) σ τ := rr_ixor dX0_findsWife_41
theorem r5_42 (d : Nat) (ls st : List Value) (σ : am_St) (τ : Int64) (x y : Int32) : am_run d 5 42 ls (.int y :: .int x :: st) σ τ = am_run d 5 43 ls (.int (x &&& y) :: st) σ τ := rr_iand dX0_findsWife_42
theorem r5_43 (d : Nat) (st : List Value) (σ : am_St) (τ : Int64) (x : Int32) (v0 v1 v2 v3 : Value) : am_run d 5 43 [v0, v1, v2, v3, .int x] st σ τ = am_run d 5 45 [v0, v1, v2, v3, .int x] (.int x :: st) σ τ := rr_iload dX0_findsWife_43 rfl
theorem r5_45 (d : Nat) (ls st : List Value) (σ : am_St) (τ : Int64) (x y : Int32) : am_run d 5 45 ls (.int y :: .int x :: st) σ τ = am_run d 5 46 ls (.int (x &&& y) :: st) σ τ := rr_iand dX0_findsWife_45
theorem r5_46 (d : Nat) (ls st : List Value) (σ : am_St) (τ : Int64) (x : Int32) : am_run d 5 46 ls (.int x :: st) σ τ = if x = 0 then am_run d 5 95 ls st σ τ else am_run d 5 49 ls st σ τ := (rr_if 95 dX0_findsWife_46 (by decide)).trans am_sel
theorem r5_49 (d : Nat) (st : List Value) (σ : am_St) (τ : Int64) (x : Nat) (v1 v2 v3 v4 : Value) : am_run d 5 49 [.ref x, v1, v2, v3, v4] st σ τ = am_run d 5 50 [.ref x, v1, v2, v3, v4] (.ref x :: st) σ τ := rr_aload_n dX0_findsWife_49 rfl
theorem r5_50 (d : Nat) (ls st : List Value) (σ : am_St) (τ : Int64) (x : Nat) : am_run d 5 50 ls (.ref x :: st) σ τ = am_run d 5 51 ls (.ref x :: .ref x :: st) σ τ := rr_dup_r dX0_findsWife_50
theorem r5_50i (d : Nat) (ls st : List Value) (σ : am_St) (τ : Int64) (x : Int32) : am_run d 5 50 ls (.int x :: st) σ τ = am_run d 5 51 ls (.int x :: .int x :: st) σ τ := rr_dup_i dX0_findsWife_50
theorem r5_51 (d : Nat) (ls st : List Value) (σ : am_St) (τ : Int64) (k : Nat) : am_run d 5 51 ls (.ref k :: st) σ τ = am_gf k 0 4 σ τ (fun v => am_run d 5 54 ls (v :: st) σ τ) := rr_getf dX0_findsWife_51 (by decide +kernel)
theorem r5_54 (d : Nat) (st : List Value) (σ : am_St) (τ : Int64) (x : Int32) (v0 v1 v2 v3 : Value) : am_run d 5 54 [v0, v1, v2, v3, .int x] st σ τ = am_run d 5 56 [v0, v1, v2, v3, .int x] (.int x :: st) σ τ := rr_iload dX0_findsWife_54 rfl
theorem r5_56 (d : Nat) (ls st : List Value) (σ : am_St) (τ : Int64) (x y : Int32) : am_run d 5 56 ls (.int y :: .int x :: st) σ τ = am_run d 5 57 ls (.int (x ||| y) :: st) σ τ := rr_ior dX0_findsWife_56
theorem r5_57 (d : Nat) (ls st : List Value) (σ : am_St) (τ : Int64) (k : Nat) (x : Int32) : am_run d 5 57 ls (.int x :: .ref k :: st) σ τ = am_pf k 0 4 x σ (fun σ => am_run d 5 60 ls st σ τ) := rr_putf dX0_findsWife_57 (by decide +kernel)
theorem r5_60 (d : Nat) (st : List Value) (σ : am_St) (τ : Int64) (x : Nat) (v1 v2 v3 v4 : Value) : am_run d 5 60 [.ref x, v1, v2, v3, v4] st σ τ = am_run d 5 61 [.ref x, v1, v2, v3, v4] (.ref x :: st) σ τ := rr_aload_n dX0_findsWife_60 rfl
theorem r5_61 (d : Nat) (ls st : List Value) (σ : am_St) (τ : Int64) (k : Nat) : am_run d 5 61 ls (.ref k :: st) σ τ = am_gf k 0 3 σ τ (fun v => am_run d 5 64 ls (v :: st) σ τ) := rr_getf dX0_findsWife_61 (by decide +kernel)
theorem r5_64 (d : Nat) (st : List Value) (σ : am_St) (τ : Int64) (x : Int32) (v0 v1 v2 v4 : Value) : am_run d 5 64 [v0, v1, v2, .int x, v4] st σ τ = am_run d 5 65 [v0, v1, v2, .int x, v4] (.int x :: st) σ τ := rr_iload_n dX0_findsWife_64 rfl
theorem r5_65 (d : Nat) (ls st : List Value) (σ : am_St) (τ : Int64) (i : Int32) (k : Nat) : am_run d 5 65 ls (.int i :: .ref k :: st) σ τ = am_ai false k i (fun j => am_run d 5 66 ls (.int (σ k j) :: st) σ τ) := rr_iald dX0_findsWife_65
theorem r5_66 (d : Nat) (ls st : List Value) (σ : am_St) (τ : Int64) : am_run d 5 66 ls st σ τ = am_run d 5 67 ls (.int (-1) :: st) σ τ := rr_iconst (-1) dX0_findsWife_66 (by decide)
theorem r5_67 (d : Nat) (ls st : List Value) (σ : am_St) (τ : Int64) (x y : Int32) : am_run d 5 67 ls (.int y :: .int x :: st) σ τ = if x = y then am_run d 5 86 ls st σ τ else am_run d 5 70 ls st σ τ := (rr_icmp 86 dX0_findsWife_67 (by decide)).trans am_sel
theorem r5_70 (d : Nat) (st : List Value) (σ : am_St) (τ : Int64) (x : Nat) (v1 v2 v3 v4 : Value) : am_run d 5 70 [.ref x, v1, v2, v3, v4] st σ τ = am_run d 5 71 [.ref x, v1, v2, v3, v4] (.ref x :: st) σ τ := rr_aload_n dX0_findsWife_70 rfl
theorem r5_71 (d : Nat) (st : List Value) (σ : am_St) (τ : Int64) (x : Nat) (v1 v2 v3 v4 : Value) : am_run d 5 71 [.ref x, v1, v2, v3, v4] st σ τ = am_run d 5 72 [.ref x, v1, v2, v3, v4] (.ref x :: st) σ τ := rr_aload_n dX0_findsWife_71 rfl
theorem r5_72 (d : Nat) (ls st : List Value) (σ : am_St) (τ : Int64) (k : Nat) : am_run d 5 72 ls (.ref k :: st) σ τ = am_gf k 0 3 σ τ (fun v => am_run d 5 75 ls (v :: st) σ τ) := rr_getf dX0_findsWife_72 (by decide +kernel)
theorem r5_75 (d : Nat) (st : List Value) (σ : am_St) (τ : Int64) (x : Int32) (v0 v1 v2 v4 : Value) : am_run d 5 75 [v0, v1, v2, .int x, v4] st σ τ = am_run d 5 76 [v0, v1, v2, .int x, v4] (.int x :: st) σ τ := rr_iload_n dX0_findsWife_75 rfl
theorem r5_76 (d : Nat) (ls st : List Value) (σ : am_St) (τ : Int64) (i : Int32) (k : Nat) : am_run d 5 76 ls (.int i :: .ref k :: st) σ τ = am_ai false k i (fun j => am_run d 5 77 ls (.int (σ k j) :: st) σ τ) := rr_iald dX0_findsWife_76
theorem r5_77 (d : Nat) (st : List Value) (σ : am_St) (τ : Int64) (x : Int32) (v0 v1 v3 v4 : Value) : am_run d 5 77 [v0, v1, .int x, v3, v4] st σ τ = am_run d 5 78 [v0, v1, .int x, v3, v4] (.int x :: st) σ τ := rr_iload_n dX0_findsWife_77 rfl
theorem r5_78 (d : Nat) (ls st : List Value) (σ : am_St) (τ : Int64) : am_run d 5 78 ls st σ τ = am_run d 5 79 ls (.int 1 :: st) σ τ := rr_iconst 1 dX0_findsWife_78 (by decide)
theorem r5_79 (d : Nat) (ls st : List Value) (σ : am_St) (τ : Int64) (x y : Int32) : am_run d 5 79 ls (.int y :: .int x :: st) σ τ = am_run d 5 80 ls (.int (x + y) :: st) σ τ := rr_iadd dX0_findsWife_79
theorem r5_80 (d : Nat) (ls st : List Value) (σ : am_St) (τ : Int64) (a0 : Nat) (a1 : Int32) (a2 : Int32) (hc : am_cats st ≤ 8) : am_run (d + 1) 5 80 ls (.int a2 :: .int a1 :: .ref a0 :: st) σ τ = (am_call d 5 [.ref a0, .int a1, .int a2] σ τ).bind (fun r => am_run (d + 1) 5 83 ls (r.1.toList ++ st) r.2.1 r.2.2) := rr_invs [.ref a0, .int a1, .int a2] dX0_findsWife_80 (by decide +kernel) (by decide +kernel) (by decide) rfl (Nat.le_of_ble_eq_true rfl) hc
theorem r5_83 (d : Nat) (ls st : List Value) (σ : am_St) (τ : Int64) (x : Int32) : am_run d 5 83 ls (.int x :: st) σ τ = if x = 0 then am_run d 5 95 ls st σ τ else am_run d 5 86 ls st σ τ := (rr_if 95 dX0_findsWife_83 (by decide)).trans am_sel
theorem r5_86 (d : Nat) (st : List Value) (σ : am_St) (τ : Int64) (x : Nat) (v1 v2 v3 v4 : Value) : am_run d 5 86 [.ref x, v1, v2, v3, v4] st σ τ = am_run d 5 87 [.ref x, v1, v2, v3, v4] (.ref x :: st) σ τ := rr_aload_n dX0_findsWife_86 rfl
theorem r5_87 (d : Nat) (ls st : List Value) (σ : am_St) (τ : Int64) (k : Nat) : am_run d 5 87 ls (.ref k :: st) σ τ = am_gf k 0 3 σ τ (fun v => am_run d 5 90 ls (v :: st) σ τ) := rr_getf dX0_findsWife_87 (by decide +kernel)
theorem r5_90 (d : Nat) (st : List Value) (σ : am_St) (τ : Int64) (x : Int32) (v0 v1 v2 v4 : Value) : am_run d 5 90 [v0, v1, v2, .int x, v4] st σ τ = am_run d 5 91 [v0, v1, v2, .int x, v4] (.int x :: st) σ τ := rr_iload_n dX0_findsWife_90 rfl
theorem r5_91 (d : Nat) (st : List Value) (σ : am_St) (τ : Int64) (x : Int32) (v0 v2 v3 v4 : Value) : am_run d 5 91 [v0, .int x, v2, v3, v4] st σ τ = am_run d 5 92 [v0, .int x, v2, v3, v4] (.int x :: st) σ τ := rr_iload_n dX0_findsWife_91 rfl
theorem r5_92 (d : Nat) (ls st : List Value) (σ : am_St) (τ : Int64) (x i : Int32) (k : Nat) : am_run d 5 92 ls (.int x :: .int i :: .ref k :: st) σ τ = am_ai false k i (fun j => am_run d 5 93 ls st (am_up σ k j x) τ) := rr_iast dX0_findsWife_92
theorem r5_93 (d : Nat) (ls st : List Value) (σ : am_St) (τ : Int64) : am_run d 5 93 ls st σ τ = am_run d 5 94 ls (.int 1 :: st) σ τ := rr_iconst 1 dX0_findsWife_93 (by decide)
theorem r5_94 (d : Nat) (ls : List Value) (σ : am_St) (τ : Int64) (x : Int32) (hx : x = 0 ∨ x = 1) : am_run d 5 94 ls [.int x] σ τ = some (some (.int x), σ, τ) := rr_zret dX0_findsWife_94 rfl hx
theorem r5_95 (d : Nat) (st : List Value) (σ : am_St) (τ : Int64) (x : Int32) (v0 v1 v2 v4 : Value) : am_run d 5 95 [v0, v1, v2, .int x, v4] st σ τ = am_run d 5 98 [v0, v1, am_nl v2, .int (x + 1), v4] st σ τ := rr_iinc 1 _ dX0_findsWife_95 rfl (by decide) (by decide) (by first | rfl | (by_cases h : v2.category = 2 <;> simp [am_set1, am_nl, h]))
theorem r5_98 (d : Nat) (ls st : List Value) (σ : am_St) (τ : Int64) : am_run d 5 98 ls st σ τ = am_run d 5 14 ls st σ τ := rr_goto 14 dX0_findsWife_98 (by decide)
theorem r5_101 (d : Nat) (ls st : List Value) (σ : am_St) (τ : Int64) : am_run d 5 101 ls st σ τ = am_run d 5 102 ls (.int 0 :: st) σ τ := rr_iconst 0 dX0_findsWife_101 (by decide)
theorem r5_102 (d : Nat) (ls : List Value) (σ : am_St) (τ : Int64) (x : Int32) (hx : x = 0 ∨ x = 1) : am_run d 5 102 ls [.int x] σ τ = some (some (.int x), σ, τ) := rr_zret dX0_findsWife_102 rfl hx
