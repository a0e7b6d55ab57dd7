theorem dX10_wrong_0 : decode (am_code 112) 0 = .ok (.iload_n 1, 1) := by decide +kernel
theorem dX10_wrong_1 : decode (am_code 112) 1 = .ok (.i2l, 1) := by decide +kernel
theorem dX10_wrong_2 : decode (am_code 112) 2 = .ok (.lconst 0, 1) := by decide +kernel
theorem dX10_wrong_3 : decode (am_code 112) 3 = .ok (.lconst 1, 1) := by decide +kernel
theorem dX10_wrong_4 : decode (am_code 112) 4 = .ok (.invokestatic 112, 3) := by decide +kernel
theorem dX10_wrong_7 : decode (am_code 112) 7 = .ok (.ifCond .eq 11, 3) := by decide +kernel
theorem dX10_wrong_10 : decode (am_code 112) 10 = .ok (.aload_n 0, 1) := by decide +kernel
theorem dX10_wrong_11 : decode (am_code 112) 11 = .ok (.iload_n 1, 1) := by decide +kernel
theorem dX10_wrong_12 : decode (am_code 112) 12 = .ok (.invokevirtual 185, 3) := by decide +kernel
theorem dX10_wrong_15 : decode (am_code 112) 15 = .ok (.goto 5, 3) := by decide +kernel
theorem dX10_wrong_18 : decode (am_code 112) 18 = .ok (.bipush (-102), 2) := by decide +kernel
theorem dX10_wrong_20 : decode (am_code 112) 20 = .ok (.ireturn, 1) := by decide +kernel
theorem r112_0 (d : Nat) (st : List Value) (σ : am_St) (τ : Int64) (x : Int32) (v0 : Value) : am_run d 112 0 [v0, .int x] st σ τ = am_run d 112 1 [v0, .int x] (.int x :: st) σ τ := rr_iload_n dX10_wrong_0 rfl
theorem r112_1 (d : Nat) (ls st : List Value) (σ : am_St) (τ : Int64) (x : Int32) : am_run d 112 1 ls (.int x :: st) σ τ = am_run d 112 2 ls (.long x.toInt64 :: st) σ τ := rr_i2l dX10_wrong_1
theorem r112_2 (d : Nat) (ls st : List Value) (σ : am_St) (τ : Int64) : am_run d 112 2 ls st σ τ = am_run d 112 3 ls (.long 0 :: st) σ τ := rr_lconst 0 dX10_wrong_2 (by decide)
theorem r112_3 (d : Nat) (ls st : List Value) (σ : am_St) (τ : Int64) : am_run d 112 3 ls st σ τ = am_run d 112 4 ls (.long 1 :: st) σ τ := rr_lconst 1 dX10_wrong_3 (by decide)
theorem r112_4 (d : Nat) (ls st : List Value) (σ : am_St) (τ : Int64) (a0 : Int64) (a1 : Int64) (a2 : Int64) (hc : am_cats st ≤ 8) : am_run (d + 1) 112 4 ls (.long a2 :: .long a1 :: .long a0 :: st) σ τ = (am_call d 82 [.long a0, .long a1, .long a2] σ τ).bind (fun r => am_run (d + 1) 112 7 ls (r.1.toList ++ st) r.2.1 r.2.2) := rr_invs [.long a0, .long a1, .long a2] dX10_wrong_4 (by decide +kernel) (by decide +kernel) (by decide) rfl (Nat.le_of_ble_eq_true rfl) hc
theorem r112_7 (d : Nat) (ls st : List Value) (σ : am_St) (τ : Int64) (x : Int32) : am_run d 112 7 ls (.int x :: st) σ τ = if x = 0 then am_run d 112 18 ls st σ τ else am_run d 112 10 ls st σ τ := (rr_if 18 dX10_wrong_7 (by decide)).trans am_sel
theorem r112_10 (d : Nat) (st : List Value) (σ : am_St) (τ : Int64) (x : Nat) (v1 : Value) : am_run d 112 10 [.ref x, v1] st σ τ = am_run d 112 11 [.ref x, v1] (.ref x :: st) σ τ := rr_aload_n dX10_wrong_10 rfl
theorem r112_11 (d : Nat) (st : List Value) (σ : am_St) (τ : Int64) (x : Int32) (v0 : Value) : am_run d 112 11 [v0, .int x] st σ τ = am_run d 112 12 [v0, .int x] (.int x :: st) σ τ := rr_iload_n dX10_wrong_11 rfl
theorem r112_12 (d : Nat) (ls st : List Value) (σ : am_St) (τ : Int64) (k : Nat) (a0 : Int32) (hk : am_kc k = 10) (hc : am_cats st ≤ 8) : am_run (d + 1) 112 12 ls (.int a0 :: .ref k :: st) σ τ = (am_call d 111 [.ref k, .int a0] σ τ).bind (fun r => am_run (d + 1) 112 15 ls (r.1.toList ++ st) r.2.1 r.2.2) := rr_invv [.int a0] dX10_wrong_12 (by decide +kernel) (by decide) rfl (Nat.le_of_ble_eq_true rfl) hk hc
theorem r112_15 (d : Nat) (ls st : List Value) (σ : am_St) (τ : Int64) : am_run d 112 15 ls st σ τ = am_run d 112 20 ls st σ τ := rr_goto 20 dX10_wrong_15 (by decide)
theorem r112_18 (d : Nat) (ls st : List Value) (σ : am_St) (τ : Int64) : am_run d 112 18 ls st σ τ = am_run d 112 20 ls (.int (-102) :: st) σ τ := rr_bipush (-102) dX10_wrong_18 (by decide)
theorem r112_20 (d : Nat) (ls : List Value) (σ : am_St) (τ : Int64) (x : Int32) : am_run d 112 20 ls [.int x] σ τ = some (some (.int x), σ, τ) := rr_iret dX10_wrong_20 rfl
theorem dX10_aloneMany_0 : decode (am_code 113) 0 = .ok (.iconst 0, 1) := by decide +kernel
theorem dX10_aloneMany_1 : decode (am_code 113) 1 = .ok (.istore_n 1, 1) := by decide +kernel
theorem dX10_aloneMany_2 : decode (am_code 113) 2 = .ok (.iconst 0, 1) := by decide +kernel
theorem dX10_aloneMany_3 : decode (am_code 113) 3 = .ok (.istore_n 2, 1) := by decide +kernel
theorem dX10_aloneMany_4 : decode (am_code 113) 4 = .ok (.iload_n 2, 1) := by decide +kernel
theorem dX10_aloneMany_5 : decode (am_code 113) 5 = .ok (.aload_n 0, 1) := by decide +kernel
theorem dX10_aloneMany_6 : decode (am_code 113) 6 = .ok (.getfield 129, 3) := by decide +kernel
theorem dX10_aloneMany_9 : decode (am_code 113) 9 = .ok (.if_icmp .ge 31, 3) := by decide +kernel
theorem dX10_aloneMany_12 : decode (am_code 113) 12 = .ok (.aload_n 0, 1) := by decide +kernel
theorem dX10_aloneMany_13 : decode (am_code 113) 13 = .ok (.getfield 19, 3) := by decide +kernel
theorem dX10_aloneMany_16 : decode (am_code 113) 16 = .ok (.iload_n 2, 1) := by decide +kernel
theorem dX10_aloneMany_17 : decode (am_code 113) 17 = .ok (.iaload, 1) := by decide +kernel
theorem dX10_aloneMany_18 : decode (am_code 113) 18 = .ok (.invokestatic 132, 3) := by decide +kernel
theorem dX10_aloneMany_21 : decode (am_code 113) 21 = .ok (.ifCond .eq 13, 3) := by decide +kernel
theorem dX10_aloneMany_24 : decode (am_code 113) 24 = .ok (.aload_n 0, 1) := by decide +kernel
theorem dX10_aloneMany_25 : decode (am_code 113) 25 = .ok (.getfield 58, 3) := by decide +kernel
theorem dX10_aloneMany_28 : decode (am_code 113) 28 = .ok (.iload_n 1, 1) := by decide +kernel
theorem dX10_aloneMany_29 : decode (am_code 113) 29 = .ok (.iload_n 2, 1) := by decide +kernel
theorem dX10_aloneMany_30 : decode (am_code 113) 30 = .ok (.iastore, 1) := by decide +kernel
theorem dX10_aloneMany_31 : decode (am_code 113) 31 = .ok (.iinc 1 1, 3) := by decide +kernel
theorem dX10_aloneMany_34 : decode (am_code 113) 34 = .ok (.iinc 2 1, 3) := by decide +kernel
theorem dX10_aloneMany_37 : decode (am_code 113) 37 = .ok (.goto (-33), 3) := by decide +kernel
theorem dX10_aloneMany_40 : decode (am_code 113) 40 = .ok (.iload_n 1, 1) := by decide +kernel
theorem dX10_aloneMany_41 : decode (am_code 113) 41 = .ok (.ireturn, 1) := by decide +kernel
theorem r113_0 (d : Nat) (ls st : List Value) (σ : am_St) (τ : Int64) : am_run d 113 0 ls st σ τ = am_run d 113 1 ls (.int 0 :: st) σ τ := rr_iconst 0 dX10_aloneMany_0 (by decide)
theorem r113_1 (d : Nat) (st : List Value) (σ : am_St) (τ : Int64) (x : Int32) (v0 v1 v2 : Value) : am_run d 113 1 [v0, v1, v2] (.int x :: st) σ τ = am_run d 113 2 [am_nl v0, .int x, v2] st σ τ := rr_istore_n _ dX10_aloneMany_1 (by decide) (by first | rfl | (by_cases h : v0.category = 2 <;> simp [am_set1, am_nl, h]))
theorem r113_2 (d : Nat) (ls st : List Value) (σ : am_St) (τ : Int64) : am_run d 113 2 ls st σ τ = am_run d 113 3 ls (.int 0 :: st) σ τ := rr_iconst 0 dX10_aloneMany_2 (by decide)
theorem r113_3 (d : Nat) (st : List Value) (σ : am_St) (τ : Int64) (x : Int32) (v0 v1 v2 : Value) : am_run d 113 3 [v0, v1, v2] (.int x :: st) σ τ = am_run d 113 4 [v0, am_nl v1, .int x] st σ τ := rr_istore_n _ dX10_aloneMany_3 (by decide) (by first | rfl | (by_cases h : v1.category = 2 <;> simp [am_set1, am_nl, h]))
theorem r113_4 (d : Nat) (st : List Value) (σ : am_St) (τ : Int64) (x : Int32) (v0 v1 : Value) : am_run d 113 4 [v0, v1, .int x] st σ τ = am_run d 113 5 [v0, v1, .int x] (.int x :: st) σ τ := rr_iload_n dX10_aloneMany_4 rfl
theorem r113_5 (d : Nat) (st : List Value) (σ : am_St) (τ : Int64) (x : Nat) (v1 v2 : Value) : am_run d 113 5 [.ref x, v1, v2] st σ τ = am_run d 113 6 [.ref x, v1, v2] (.ref x :: st) σ τ := rr_aload_n dX10_aloneMany_5 rfl
theorem r113_6 (d : Nat) (ls st : List Value) (σ : am_St) (τ : Int64) (k : Nat) : am_run d 113 6 ls (.ref k :: st) σ τ = am_gf k 10 6 σ τ (fun v => am_run d 113 9 ls (v :: st) σ τ) := rr_getf dX10_aloneMany_6 (by decide +kernel)
theorem r113_9 (d : Nat) (ls st : List Value) (σ : am_St) (τ : Int64) (x y : Int32) : am_run d 113 9 ls (.int y :: .int x :: st) σ τ = if y ≤ x then am_run d 113 40 ls st σ τ else am_run d 113 12 ls st σ τ := (rr_icmp 40 dX10_aloneMany_9 (by decide)).trans am_sel
theorem r113_12 (d : Nat) (st : List Value) (σ : am_St) (τ : Int64) (x : Nat) (v1 v2 : Value) : am_run d 113 12 [.ref x, v1, v2] st σ τ = am_run d 113 13 [.ref x, v1, v2] (.ref x :: st) σ τ := rr_aload_n dX10_aloneMany_12 rfl
theorem r113_13 (d : Nat) (ls st : List Value) (σ : am_St) (τ : Int64) (k : Nat) : am_run d 113 13 ls (.ref k :: st) σ τ = am_gf k 10 8 σ τ (fun v => am_run d 113 16 ls (v :: st) σ τ) := rr_getf dX10_aloneMany_13 (by decide +kernel)
theorem r113_16 (d : Nat) (st : List Value) (σ : am_St) (τ : Int64) (x : Int32) (v0 v1 : Value) : am_run d 113 16 [v0, v1, .int x] st σ τ = am_run d 113 17 [v0, v1, .int x] (.int x :: st) σ τ := rr_iload_n dX10_aloneMany_16 rfl
theorem r113_17 (d : Nat) (ls st : List Value) (σ : am_St) (τ : Int64) (i : Int32) (k : Nat) : am_run d 113 17 ls (.int i :: .ref k :: st) σ τ = am_ai false k i (fun j => am_run d 113 18 ls (.int (σ k j) :: st) σ τ) := rr_iald dX10_aloneMany_17
theorem r113_18 (d : Nat) (ls st : List Value) (σ : am_St) (τ : Int64) (a0 : Int32) (hc : am_cats st ≤ 8) : am_run (d + 1) 113 18 ls (.int a0 :: st) σ τ = (am_call d 92 [.int a0] σ τ).bind (fun r => am_run (d + 1) 113 21 ls (r.1.toList ++ st) r.2.1 r.2.2) := rr_invs [.int a0] dX10_aloneMany_18 (by decide +kernel) (by decide +kernel) (by decide) rfl (Nat.le_of_ble_eq_true rfl) hc
theorem r113_21 (d : Nat) (ls st : List Value) (σ : am_St) (τ : Int64) (x : Int32) : am_run d 113 21 ls (.int x :: st) σ τ = if x = 0 then am_run d 113 34 ls st σ τ else am_run d 113 24 ls st σ τ := (rr_if 34 dX10_aloneMany_21 (by decide)).trans am_sel
theorem r113_24 (d : Nat) (st : List Value) (σ : am_St) (τ : Int64) (x : Nat) (v1 v2 : Value) : am_run d 113 24 [.ref x, v1, v2] st σ τ = am_run d 113 25 [.ref x, v1, v2] (.ref x :: st) σ τ := rr_aload_n dX10_aloneMany_24 rfl
theorem r113_25 (d : Nat) (ls st : List Value) (σ : am_St) (τ : Int64) (k : Nat) : am_run d 113 25 ls (.ref k :: st) σ τ = am_gf k 10 22 σ τ (fun v => am_run d 113 28 ls (v :: st) σ τ) := rr_getf dX10_aloneMany_25 (by decide +kernel)
theorem r113_28 (d : Nat) (st : List Value) (σ : am_St) (τ : Int64) (x : Int32) (v0 v2 : Value) : am_run d 113 28 [v0, .int x, v2] st σ τ = am_run d 113 29 [v0, .int x, v2] (.int x :: st) σ τ := rr_iload_n dX10_aloneMany_28 rfl
theorem r113_29 (d : Nat) (st : List Value) (σ : am_St) (τ : Int64) (x : Int32) (v0 v1 : Value) : am_run d 113 29 [v0, v1, .int x] st σ τ = am_run d 113 30 [v0, v1, .int x] (.int x :: st) σ τ := rr_iload_n dX10_aloneMany_29 rfl
theorem r113_30 (d : Nat) (ls st : List Value) (σ : am_St) (τ : Int64) (x i : Int32) (k : Nat) : am_run d 113 30 ls (.int x :: .int i :: .ref k :: st) σ τ = am_ai false k i (fun j => am_run d 113 31 ls st (am_up σ k j x) τ) := rr_iast dX10_aloneMany_30
theorem r113_31 (d : Nat) (st : List Value) (σ : am_St) (τ : Int64) (x : Int32) (v0 v2 : Value) : am_run d 113 31 [v0, .int x, v2] st σ τ = am_run d 113 34 [am_nl v0, .int (x + 1), v2] st σ τ := rr_iinc 1 _ dX10_aloneMany_31 rfl (by decide) (by decide) (by first | rfl | (by_cases h : v0.category = 2 <;> simp [am_set1, am_nl, h]))
theorem r113_34 (d : Nat) (st : List Value) (σ : am_St) (τ : Int64) (x : Int32) (v0 v1 : Value) : am_run d 113 34 [v0, v1, .int x] st σ τ = am_run d 113 37 [v0, am_nl v1, .int (x + 1)] st σ τ := rr_iinc 1 _ dX10_aloneMany_34 rfl (by decide) (by decide) (by first | rfl | (by_cases h : v1.category = 2 <;> simp [am_set1, am_nl, h]))
theorem r113_37 (d : Nat) (ls st : List Value) (σ : am_St) (τ : Int64) : am_run d 113 37 ls st σ τ = am_run d 113 4 ls st σ τ := rr_goto 4 dX10_aloneMany_37 (by decide)
theorem r113_40 (d : Nat) (st : List Value) (σ : am_St) (τ : Int64) (x : Int32) (v0 v2 : Value) : am_run d 113 40 [v0, .int x, v2] st σ τ = am_run d 113 41 [v0, .int x, v2] (.int x :: st) σ τ := rr_iload_n dX10_aloneMany_40 rfl
theorem r113_41 (d : Nat) (ls : List Value) (σ : am_St) (τ : Int64) (x : Int32) : am_run d 113 41 ls [.int x] σ τ = some (some (.int x), σ, τ) := rr_iret dX10_aloneMany_41 rfl
theorem dX10_mended_0 : decode (am_code 114) 0 = .ok (.iload_n 1, 1) := by decide +kernel
theorem dX10_mended_1 : decode (am_code 114) 1 = .ok (.i2l, 1) := by decide +kernel
theorem dX10_mended_2 : decode (am_code 114) 2 = .ok (.lconst 0, 1) := by decide +kernel
theorem dX10_mended_3 : decode (am_code 114) 3 = .ok (.ldc2_w 141, 3) := by decide +kernel
theorem dX10_mended_6 : decode (am_code 114) 6 = .ok (.invokestatic 112, 3) := by decide +kernel
theorem dX10_mended_9 : decode (am_code 114) 9 = .ok (.ifCond .ne 6, 3) := by decide +kernel
theorem dX10_mended_12 : decode (am_code 114) 12 = .ok (.bipush (-102), 2) := by decide +kernel
theorem dX10_mended_14 : decode (am_code 114) 14 = .ok (.ireturn, 1) := by decide +kernel
theorem dX10_mended_15 : decode (am_code 114) 15 = .ok (.aload_n 0, 1) := by decide +kernel
theorem dX10_mended_16 : decode (am_code 114) 16 = .ok (.invokevirtual 188, 3) := by decide +kernel
theorem dX10_mended_19 : decode (am_code 114) 19 = .ok (.istore_n 2, 1) := by decide +kernel
theorem dX10_mended_20 : decode (am_code 114) 20 = .ok (.iload_n 2, 1) := by decide +kernel
theorem dX10_mended_21 : decode (am_code 114) 21 = .ok (.iconst 4, 1) := by decide +kernel
theorem dX10_mended_22 : decode (am_code 114) 22 = .ok (.if_icmp .gt 12, 3) := by decide +kernel
theorem dX10_mended_25 : decode (am_code 114) 25 = .ok (.aload_n 0, 1) := by decide +kernel
theorem dX10_mended_26 : decode (am_code 114) 26 = .ok (.getfield 191, 3) := by decide +kernel
theorem dX10_mended_29 : decode (am_code 114) 29 = .ok (.bipush 40, 2) := by decide +kernel
theorem dX10_mended_31 : decode (am_code 114) 31 = .ok (.if_icmp .ne 6, 3) := by decide +kernel
theorem dX10_mended_34 : decode (am_code 114) 34 = .ok (.bipush (-103), 2) := by decide +kernel
theorem dX10_mended_36 : decode (am_code 114) 36 = .ok (.ireturn, 1) := by decide +kernel
theorem dX10_mended_37 : decode (am_code 114) 37 = .ok (.aload_n 0, 1) := by decide +kernel
theorem dX10_mended_38 : decode (am_code 114) 38 = .ok (.dup, 1) := by decide +kernel
theorem dX10_mended_39 : decode (am_code 114) 39 = .ok (.getfield 191, 3) := by decide +kernel
theorem dX10_mended_42 : decode (am_code 114) 42 = .ok (.iconst 1, 1) := by decide +kernel
theorem dX10_mended_43 : decode (am_code 114) 43 = .ok (.iadd, 1) := by decide +kernel
theorem dX10_mended_44 : decode (am_code 114) 44 = .ok (.putfield 191, 3) := by decide +kernel
theorem dX10_mended_47 : decode (am_code 114) 47 = .ok (.aload_n 0, 1) := by decide +kernel
theorem dX10_mended_48 : decode (am_code 114) 48 = .ok (.invokevirtual 162, 3) := by decide +kernel
theorem dX10_mended_51 : decode (am_code 114) 51 = .ok (.iconst 1, 1) := by decide +kernel
theorem dX10_mended_52 : decode (am_code 114) 52 = .ok (.istore_n 3, 1) := by decide +kernel
theorem dX10_mended_53 : decode (am_code 114) 53 = .ok (.iconst 0, 1) := by decide +kernel
theorem dX10_mended_54 : decode (am_code 114) 54 = .ok (.istore 4, 2) := by decide +kernel
theorem dX10_mended_56 : decode (am_code 114) 56 = .ok (.iload 4, 2) := by decide +kernel
theorem dX10_mended_58 : decode (am_code 114) 58 = .ok (.iload_n 2, 1) := by decide +kernel
theorem dX10_mended_59 : decode (am_code 114) 59 = .ok (.if_icmp .ge 14, 3) := by decide +kernel
theorem dX10_mended_62 : decode (am_code 114) 62 = .ok (.iload_n 3, 1) := by decide +kernel
theorem dX10_mended_63 : decode (am_code 114) 63 = .ok (.bipush 6, 2) := by decide +kernel
theorem dX10_mended_65 : decode (am_code 114) 65 = .ok (.imul, 1) := by decide +kernel
theorem dX10_mended_66 : decode (am_code 114) 66 = .ok (.istore_n 3, 1) := by decide +kernel
theorem dX10_mended_67 : decode (am_code 114) 67 = .ok (.iinc 4 1, 3) := by decide +kernel
theorem dX10_mended_70 : decode (am_code 114) 70 = .ok (.goto (-14), 3) := by decide +kernel
theorem dX10_mended_73 : decode (am_code 114) 73 = .ok (.sipush 1000, 3) := by decide +kernel
theorem dX10_mended_76 : decode (am_code 114) 76 = .ok (.istore 4, 2) := by decide +kernel
theorem dX10_mended_78 : decode (am_code 114) 78 = .ok (.iconst 0, 1) := by decide +kernel
theorem dX10_mended_79 : decode (am_code 114) 79 = .ok (.istore 5, 2) := by decide +kernel
theorem dX10_mended_81 : decode (am_code 114) 81 = .ok (.iload 5, 2) := by decide +kernel
theorem dX10_mended_83 : decode (am_code 114) 83 = .ok (.iload_n 3, 1) := by decide +kernel
theorem dX10_mended_84 : decode (am_code 114) 84 = .ok (.if_icmp .ge 106, 3) := by decide +kernel
theorem dX10_mended_87 : decode (am_code 114) 87 = .ok (.iload 5, 2) := by decide +kernel
theorem dX10_mended_89 : decode (am_code 114) 89 = .ok (.istore 6, 2) := by decide +kernel
theorem dX10_mended_91 : decode (am_code 114) 91 = .ok (.iload_n 2, 1) := by decide +kernel
theorem dX10_mended_92 : decode (am_code 114) 92 = .ok (.iconst 1, 1) := by decide +kernel
theorem dX10_mended_93 : decode (am_code 114) 93 = .ok (.isub, 1) := by decide +kernel
theorem dX10_mended_94 : decode (am_code 114) 94 = .ok (.istore 7, 2) := by decide +kernel
theorem dX10_mended_96 : decode (am_code 114) 96 = .ok (.iload 7, 2) := by decide +kernel
theorem dX10_mended_98 : decode (am_code 114) 98 = .ok (.ifCond .lt 33, 3) := by decide +kernel
theorem dX10_mended_101 : decode (am_code 114) 101 = .ok (.aload_n 0, 1) := by decide +kernel
theorem dX10_mended_102 : decode (am_code 114) 102 = .ok (.getfield 49, 3) := by decide +kernel
theorem dX10_mended_105 : decode (am_code 114) 105 = .ok (.aload_n 0, 1) := by decide +kernel
theorem dX10_mended_106 : decode (am_code 114) 106 = .ok (.getfield 58, 3) := by decide +kernel
theorem dX10_mended_109 : decode (am_code 114) 109 = .ok (.iload 7, 2) := by decide +kernel
theorem dX10_mended_111 : decode (am_code 114) 111 = .ok (.iaload, 1) := by decide +kernel
theorem dX10_mended_112 : decode (am_code 114) 112 = .ok (.iload 6, 2) := by decide +kernel
theorem dX10_mended_114 : decode (am_code 114) 114 = .ok (.bipush 6, 2) := by decide +kernel
theorem dX10_mended_116 : decode (am_code 114) 116 = .ok (.irem, 1) := by decide +kernel
theorem dX10_mended_117 : decode (am_code 114) 117 = .ok (.iastore, 1) := by decide +kernel
theorem dX10_mended_118 : decode (am_code 114) 118 = .ok (.iload 6, 2) := by decide +kernel
theorem dX10_mended_120 : decode (am_code 114) 120 = .ok (.bipush 6, 2) := by decide +kernel
theorem dX10_mended_122 : decode (am_code 114) 122 = .ok (.idiv, 1) := by decide +kernel
theorem dX10_mended_123 : decode (am_code 114) 123 = .ok (.istore 6, 2) := by decide +kernel
theorem dX10_mended_125 : decode (am_code 114) 125 = .ok (.iinc 7 (-1), 3) := by decide +kernel
theorem dX10_mended_128 : decode (am_code 114) 128 = .ok (.goto (-32), 3) := by decide +kernel
theorem dX10_mended_131 : decode (am_code 114) 131 = .ok (.aload_n 0, 1) := by decide +kernel
theorem dX10_mended_132 : decode (am_code 114) 132 = .ok (.invokevirtual 165, 3) := by decide +kernel
theorem dX10_mended_135 : decode (am_code 114) 135 = .ok (.aload_n 0, 1) := by decide +kernel
theorem dX10_mended_136 : decode (am_code 114) 136 = .ok (.invokevirtual 182, 3) := by decide +kernel
theorem dX10_mended_139 : decode (am_code 114) 139 = .ok (.iload 4, 2) := by decide +kernel
theorem dX10_mended_141 : decode (am_code 114) 141 = .ok (.if_icmp .ge 43, 3) := by decide +kernel
theorem dX10_mended_144 : decode (am_code 114) 144 = .ok (.aload_n 0, 1) := by decide +kernel
theorem dX10_mended_145 : decode (am_code 114) 145 = .ok (.invokevirtual 182, 3) := by decide +kernel
theorem dX10_mended_148 : decode (am_code 114) 148 = .ok (.istore 4, 2) := by decide +kernel
theorem dX10_mended_150 : decode (am_code 114) 150 = .ok (.iconst 0, 1) := by decide +kernel
theorem dX10_mended_151 : decode (am_code 114) 151 = .ok (.istore 7, 2) := by decide +kernel
theorem dX10_mended_153 : decode (am_code 114) 153 = .ok (.iload 7, 2) := by decide +kernel
theorem dX10_mended_155 : decode (am_code 114) 155 = .ok (.iload_n 2, 1) := by decide +kernel
theorem dX10_mended_156 : decode (am_code 114) 156 = .ok (.if_icmp .ge 28, 3) := by decide +kernel
theorem dX10_mended_159 : decode (am_code 114) 159 = .ok (.aload_n 0, 1) := by decide +kernel
theorem dX10_mended_160 : decode (am_code 114) 160 = .ok (.getfield 61, 3) := by decide +kernel
theorem dX10_mended_163 : decode (am_code 114) 163 = .ok (.iload 7, 2) := by decide +kernel
theorem dX10_mended_165 : decode (am_code 114) 165 = .ok (.aload_n 0, 1) := by decide +kernel
theorem dX10_mended_166 : decode (am_code 114) 166 = .ok (.getfield 49, 3) := by decide +kernel
theorem dX10_mended_169 : decode (am_code 114) 169 = .ok (.aload_n 0, 1) := by decide +kernel
theorem dX10_mended_170 : decode (am_code 114) 170 = .ok (.getfield 58, 3) := by decide +kernel
theorem dX10_mended_173 : decode (am_code 114) 173 = .ok (.iload 7, 2) := by decide +kernel
theorem dX10_mended_175 : decode (am_code 114) 175 = .ok (.iaload, 1) := by decide +kernel
theorem dX10_mended_176 : decode (am_code 114) 176 = .ok (.iaload, 1) := by decide +kernel
theorem dX10_mended_177 : decode (am_code 114) 177 = .ok (.iastore, 1) := by decide +kernel
theorem dX10_mended_178 : decode (am_code 114) 178 = .ok (.iinc 7 1, 3) := by decide +kernel
theorem dX10_mended_181 : decode (am_code 114) 181 = .ok (.goto (-28), 3) := by decide +kernel
theorem dX10_mended_184 : decode (am_code 114) 184 = .ok (.iinc 5 1, 3) := by decide +kernel
theorem dX10_mended_187 : decode (am_code 114) 187 = .ok (.goto (-106), 3) := by decide +kernel
theorem dX10_mended_190 : decode (am_code 114) 190 = .ok (.iload_n 1, 1) := by decide +kernel
theorem dX10_mended_191 : decode (am_code 114) 191 = .ok (.ifCond .ne 8, 3) := by decide +kernel
theorem dX10_mended_194 : decode (am_code 114) 194 = .ok (.iload 4, 2) := by decide +kernel
theorem dX10_mended_196 : decode (am_code 114) 196 = .ok (.goto 20, 3) := by decide +kernel
theorem dX10_mended_199 : decode (am_code 114) 199 = .ok (.iload_n 1, 1) := by decide +kernel
theorem dX10_mended_200 : decode (am_code 114) 200 = .ok (.iload_n 2, 1) := by decide +kernel
theorem dX10_mended_201 : decode (am_code 114) 201 = .ok (.if_icmp .gt 14, 3) := by decide +kernel
theorem dX10_mended_204 : decode (am_code 114) 204 = .ok (.aload_n 0, 1) := by decide +kernel
theorem dX10_mended_205 : decode (am_code 114) 205 = .ok (.getfield 61, 3) := by decide +kernel
theorem dX10_mended_208 : decode (am_code 114) 208 = .ok (.iload_n 1, 1) := by decide +kernel
theorem dX10_mended_209 : decode (am_code 114) 209 = .ok (.iconst 1, 1) := by decide +kernel
theorem dX10_mended_210 : decode (am_code 114) 210 = .ok (.isub, 1) := by decide +kernel
theorem dX10_mended_211 : decode (am_code 114) 211 = .ok (.iaload, 1) := by decide +kernel
theorem dX10_mended_212 : decode (am_code 114) 212 = .ok (.goto 4, 3) := by decide +kernel
theorem dX10_mended_215 : decode (am_code 114) 215 = .ok (.iconst (-1), 1) := by decide +kernel
theorem dX10_mended_216 : decode (am_code 114) 216 = .ok (.ireturn, 1) := by decide +kernel
theorem r114_0 (d : Nat) (st : List Value) (σ : am_St) (τ : Int64) (x : Int32) (v0 v2 v3 v4 v5 v6 v7 : Value) : am_run d 114 0 [v0, .int x, v2, v3, v4, v5, v6, v7] st σ τ = am_run d 114 1 [v0, .int x, v2, v3, v4, v5, v6, v7] (.int x :: st) σ τ := rr_iload_n dX10_mended_0 rfl
theorem r114_1 (d : Nat) (ls st : List Value) (σ : am_St) (τ : Int64) (x : Int32) : am_run d 114 1 ls (.int x :: st) σ τ = am_run d 114 2 ls (.long x.toInt64 :: st) σ τ := rr_i2l dX10_mended_1
theorem r114_2 (d : Nat) (ls st : List Value) (σ : am_St) (τ : Int64) : am_run d 114 2 ls st σ τ = am_run d 114 3 ls (.long 0 :: st) σ τ := rr_lconst 0 dX10_mended_2 (by decide)
theorem r114_3 (d : Nat) (ls st : List Value) (σ : am_St) (τ : Int64) : am_run d 114 3 ls st σ τ = am_run d 114 6 ls (.long 4 :: st) σ τ := rr_ldc2 4 dX10_mended_3 (by decide +kernel)
theorem r114_6 (d : Nat) (ls st : List Value) (σ : am_St) (τ : Int64) (a0 : Int64) (a1 : Int64) (a2 : Int64) (hc : am_cats st ≤ 8) : am_run (d + 1) 114 6 ls (.long a2 :: .long a1 :: .long a0 :: st) σ τ = (am_call d 82 [.long a0, .long a1, .long a2] σ τ).bind (fun r => am_run (d + 1) 114 9 ls (r.1.toList ++ st) r.2.1 r.2.2) := rr_invs [.long a0, .long a1, .long a2] dX10_mended_6 (by decide +kernel) (by decide +kernel) (by decide) rfl (Nat.le_of_ble_eq_true rfl) hc
theorem r114_9 (d : Nat) (ls st : List Value) (σ : am_St) (τ : Int64) (x : Int32) : am_run d 114 9 ls (.int x :: st) σ τ = if x = 0 then am_run d 114 12 ls st σ τ else am_run d 114 15 ls st σ τ := (rr_if 15 dX10_mended_9 (by decide)).trans am_seln
theorem r114_12 (d : Nat) (ls st : List Value) (σ : am_St) (τ : Int64) : am_run d 114 12 ls st σ τ = am_run d 114 14 ls (.int (-102) :: st) σ τ := rr_bipush (-102) dX10_mended_12 (by decide)
theorem r114_14 (d : Nat) (ls : List Value) (σ : am_St) (τ : Int64) (x : Int32) : am_run d 114 14 ls [.int x] σ τ = some (some (.int x), σ, τ) := rr_iret dX10_mended_14 rfl
theorem r114_15 (d : Nat) (st : List Value) (σ : am_St) (τ : Int64) (x : Nat) (v1 v2 v3 v4 v5 v6 v7 : Value) : am_run d 114 15 [.ref x, v1, v2, v3, v4, v5, v6, v7] st σ τ = am_run d 114 16 [.ref x, v1, v2, v3, v4, v5, v6, v7] (.ref x :: st) σ τ := rr_aload_n dX10_mended_15 rfl
theorem r114_16 (d : Nat) (ls st : List Value) (σ : am_St) (τ : Int64) (k : Nat)  (hk : am_kc k = 10) (hc : am_cats st ≤ 8) : am_run (d + 1) 114 16 ls (.ref k :: st) σ τ = (am_call d 113 [.ref k] σ τ).bind (fun r => am_run (d + 1) 114 19 ls (r.1.toList ++ st) r.2.1 r.2.2) := rr_invv [] dX10_mended_16 (by decide +kernel) (by decide) rfl (Nat.le_of_ble_eq_true rfl) hk hc
theorem r114_19 (d : Nat) (st : List Value) (σ : am_St) (τ : Int64) (x : Int32) (v0 v1 v2 v3 v4 v5 v6 v7 : Value) : am_run d 114 19 [v0, v1, v2, v3, v4, v5, v6, v7] (.int x :: st) σ τ = am_run d 114 20 [v0, am_nl v1, .int x, v3, v4, v5, v6, v7] st σ τ := rr_istore_n _ dX10_mended_19 (by decide) (by first | rfl | (by_cases h : v1.category = 2 <;> simp [am_set1, am_nl, h]))
theorem r114_20 (d : Nat) (st : List Value) (σ : am_St) (τ : Int64) (x : Int32) (v0 v1 v3 v4 v5 v6 v7 : Value) : am_run d 114 20 [v0, v1, .int x, v3, v4, v5, v6, v7] st σ τ = am_run d 114 21 [v0, v1, .int x, v3, v4, v5, v6, v7] (.int x :: st) σ τ := rr_iload_n dX10_mended_20 rfl
theorem r114_21 (d : Nat) (ls st : List Value) (σ : am_St) (τ : Int64) : am_run d 114 21 ls st σ τ = am_run d 114 22 ls (.int 4 :: st) σ τ := rr_iconst 4 dX10_mended_21 (by decide)
theorem r114_22 (d : Nat) (ls st : List Value) (σ : am_St) (τ : Int64) (x y : Int32) : am_run d 114 22 ls (.int y :: .int x :: st) σ τ = if y < x then am_run d 114 34 ls st σ τ else am_run d 114 25 ls st σ τ := (rr_icmp 34 dX10_mended_22 (by decide)).trans am_sel
theorem r114_25 (d : Nat) (st : List Value) (σ : am_St) (τ : Int64) (x : Nat) (v1 v2 v3 v4 v5 v6 v7 : Value) : am_run d 114 25 [.ref x, v1, v2, v3, v4, v5, v6, v7] st σ τ = am_run d 114 26 [.ref x, v1, v2, v3, v4, v5, v6, v7] (.ref x :: st) σ τ := rr_aload_n dX10_mended_25 rfl
theorem r114_26 (d : Nat) (ls st : List Value) (σ : am_St) (τ : Int64) (k : Nat) : am_run d 114 26 ls (.ref k :: st) σ τ = am_gf k 10 21 σ τ (fun v => am_run d 114 29 ls (v :: st) σ τ) := rr_getf dX10_mended_26 (by decide +kernel)
theorem r114_29 (d : Nat) (ls st : List Value) (σ : am_St) (τ : Int64) : am_run d 114 29 ls st σ τ = am_run d 114 31 ls (.int 40 :: st) σ τ := rr_bipush 40 dX10_mended_29 (by decide)
theorem r114_31 (d : Nat) (ls st : List Value) (σ : am_St) (τ : Int64) (x y : Int32) : am_run d 114 31 ls (.int y :: .int x :: st) σ τ = if x = y then am_run d 114 34 ls st σ τ else am_run d 114 37 ls st σ τ := (rr_icmp 37 dX10_mended_31 (by decide)).trans am_seln
theorem r114_34 (d : Nat) (ls st : List Value) (σ : am_St) (τ : Int64) : am_run d 114 34 ls st σ τ = am_run d 114 36 ls (.int (-103) :: st) σ τ := rr_bipush (-103) dX10_mended_34 (by decide)
theorem r114_36 (d : Nat) (ls : List Value) (σ : am_St) (τ : Int64) (x : Int32) : am_run d 114 36 ls [.int x] σ τ = some (some (.int x), σ, τ) := rr_iret dX10_mended_36 rfl
theorem r114_37 (d : Nat) (st : List Value) (σ : am_St) (τ : Int64) (x : Nat) (v1 v2 v3 v4 v5 v6 v7 : Value) : am_run d 114 37 [.ref x, v1, v2, v3, v4, v5, v6, v7] st σ τ = am_run d 114 38 [.ref x, v1, v2, v3, v4, v5, v6, v7] (.ref x :: st) σ τ := rr_aload_n dX10_mended_37 rfl
theorem r114_38 (d : Nat) (ls st : List Value) (σ : am_St) (τ : Int64) (x : Nat) : am_run d 114 38 ls (.ref x :: st) σ τ = am_run d 114 39 ls (.ref x :: .ref x :: st) σ τ := rr_dup_r dX10_mended_38
theorem r114_38i (d : Nat) (ls st : List Value) (σ : am_St) (τ : Int64) (x : Int32) : am_run d 114 38 ls (.int x :: st) σ τ = am_run d 114 39 ls (.int x :: .int x :: st) σ τ := rr_dup_i dX10_mended_38
theorem r114_39 (d : Nat) (ls st : List Value) (σ : am_St) (τ : Int64) (k : Nat) : am_run d 114 39 ls (.ref k :: st) σ τ = am_gf k 10 21 σ τ (fun v => am_run d 114 42 ls (v :: st) σ τ) := rr_getf dX10_mended_39 (by decide +kernel)
theorem r114_42 (d : Nat) (ls st : List Value) (σ : am_St) (τ : Int64) : am_run d 114 42 ls st σ τ = am_run d 114 43 ls (.int 1 :: st) σ τ := rr_iconst 1 dX10_mended_42 (by decide)
theorem r114_43 (d : Nat) (ls st : List Value) (σ : am_St) (τ : Int64) (x y : Int32) : am_run d 114 43 ls (.int y :: .int x :: st) σ τ = am_run d 114 44 ls (.int (x + y) :: st) σ τ := rr_iadd dX10_mended_43
theorem r114_44 (d : Nat) (ls st : List Value) (σ : am_St) (τ : Int64) (k : Nat) (x : Int32) : am_run d 114 44 ls (.int x :: .ref k :: st) σ τ = am_pf k 10 21 x σ (fun σ => am_run d 114 47 ls st σ τ) := rr_putf dX10_mended_44 (by decide +kernel)
theorem r114_47 (d : Nat) (st : List Value) (σ : am_St) (τ : Int64) (x : Nat) (v1 v2 v3 v4 v5 v6 v7 : Value) : am_run d 114 47 [.ref x, v1, v2, v3, v4, v5, v6, v7] st σ τ = am_run d 114 48 [.ref x, v1, v2, v3, v4, v5, v6, v7] (.ref x :: st) σ τ := rr_aload_n dX10_mended_47 rfl
theorem r114_48 (d : Nat) (ls st : List Value) (σ : am_St) (τ : Int64) (k : Nat)  (hk : am_kc k = 10) (hc : am_cats st ≤ 8) : am_run (d + 1) 114 48 ls (.ref k :: st) σ τ = (am_call d 100 [.ref k] σ τ).bind (fun r => am_run (d + 1) 114 51 ls (r.1.toList ++ st) r.2.1 r.2.2) := rr_invv [] dX10_mended_48 (by decide +kernel) (by decide) rfl (Nat.le_of_ble_eq_true rfl) hk hc
theorem r114_51 (d : Nat) (ls st : List Value) (σ : am_St) (τ : Int64) : am_run d 114 51 ls st σ τ = am_run d 114 52 ls (.int 1 :: st) σ τ := rr_iconst 1 dX10_mended_51 (by decide)
theorem r114_52 (d : Nat) (st : List Value) (σ : am_St) (τ : Int64) (x : Int32) (v0 v1 v2 v3 v4 v5 v6 v7 : Value) : am_run d 114 52 [v0, v1, v2, v3, v4, v5, v6, v7] (.int x :: st) σ τ = am_run d 114 53 [v0, v1, am_nl v2, .int x, v4, v5, v6, v7] st σ τ := rr_istore_n _ dX10_mended_52 (by decide) (by first | rfl | (by_cases h : v2.category = 2 <;> simp [am_set1, am_nl, h]))
theorem r114_53 (d : Nat) (ls st : List Value) (σ : am_St) (τ : Int64) : am_run d 114 53 ls st σ τ = am_run d 114 54 ls (.int 0 :: st) σ τ := rr_iconst 0 dX10_mended_53 (by decide)
theorem r114_54 (d : Nat) (st : List Value) (σ : am_St) (τ : Int64) (x : Int32) (v0 v1 v2 v3 v4 v5 v6 v7 : Value) : am_run d 114 54 [v0, v1, v2, v3, v4, v5, v6, v7] (.int x :: st) σ τ = am_run d 114 56 [v0, v1, v2, am_nl v3, .int x, v5, v6, v7] st σ τ := rr_istore _ dX10_mended_54 (by decide) (by first | rfl | (by_cases h : v3.category = 2 <;> simp [am_set1, am_nl, h]))
theorem r114_56 (d : Nat) (st : List Value) (σ : am_St) (τ : Int64) (x : Int32) (v0 v1 v2 v3 v5 v6 v7 : Value) : am_run d 114 56 [v0, v1, v2, v3, .int x, v5, v6, v7] st σ τ = am_run d 114 58 [v0, v1, v2, v3, .int x, v5, v6, v7] (.int x :: st) σ τ := rr_iload dX10_mended_56 rfl
theorem r114_58 (d : Nat) (st : List Value) (σ : am_St) (τ : Int64) (x : Int32) (v0 v1 v3 v4 v5 v6 v7 : Value) : am_run d 114 58 [v0, v1, .int x, v3, v4, v5, v6, v7] st σ τ = am_run d 114 59 [v0, v1, .int x, v3, v4, v5, v6, v7] (.int x :: st) σ τ := rr_iload_n dX10_mended_58 rfl
theorem r114_59 (d : Nat) (ls st : List Value) (σ : am_St) (τ : Int64) (x y : Int32) : am_run d 114 59 ls (.int y :: .int x :: st) σ τ = if y ≤ x then am_run d 114 73 ls st σ τ else am_run d 114 62 ls st σ τ := (rr_icmp 73 dX10_mended_59 (by decide)).trans am_sel
theorem r114_62 (d : Nat) (st : List Value) (σ : am_St) (τ : Int64) (x : Int32) (v0 v1 v2 v4 v5 v6 v7 : Value) : am_run d 114 62 [v0, v1, v2, .int x, v4, v5, v6, v7] st σ τ = am_run d 114 63 [v0, v1, v2, .int x, v4, v5, v6, v7] (.int x :: st) σ τ := rr_iload_n dX10_mended_62 rfl
theorem r114_63 (d : Nat) (ls st : List Value) (σ : am_St) (τ : Int64) : am_run d 114 63 ls st σ τ = am_run d 114 65 ls (.int 6 :: st) σ τ := rr_bipush 6 dX10_mended_63 (by decide)
theorem r114_65 (d : Nat) (ls st : List Value) (σ : am_St) (τ : Int64) (x y : Int32) : am_run d 114 65 ls (.int y :: .int x :: st) σ τ = am_run d 114 66 ls (.int (x * y) :: st) σ τ := rr_imul dX10_mended_65
theorem r114_66 (d : Nat) (st : List Value) (σ : am_St) (τ : Int64) (x : Int32) (v0 v1 v2 v3 v4 v5 v6 v7 : Value) : am_run d 114 66 [v0, v1, v2, v3, v4, v5, v6, v7] (.int x :: st) σ τ = am_run d 114 67 [v0, v1, am_nl v2, .int x, v4, v5, v6, v7] st σ τ := rr_istore_n _ dX10_mended_66 (by decide) (by first | rfl | (by_cases h : v2.category = 2 <;> simp [am_set1, am_nl, h]))
theorem r114_67 (d : Nat) (st : List Value) (σ : am_St) (τ : Int64) (x : Int32) (v0 v1 v2 v3 v5 v6 v7 : Value) : am_run d 114 67 [v0, v1, v2, v3, .int x, v5, v6, v7] st σ τ = am_run d 114 70 [v0, v1, v2, am_nl v3, .int (x + 1), v5, v6, v7] st σ τ := rr_iinc 1 _ dX10_mended_67 rfl (by decide) (by decide) (by first | rfl | (by_cases h : v3.category = 2 <;> simp [am_set1, am_nl, h]))
theorem r114_70 (d : Nat) (ls st : List Value) (σ : am_St) (τ : Int64) : am_run d 114 70 ls st σ τ = am_run d 114 56 ls st σ τ := rr_goto 56 dX10_mended_70 (by decide)
theorem r114_73 (d : Nat) (ls st : List Value) (σ : am_St) (τ : Int64) : am_run d 114 73 ls st σ τ = am_run d 114 76 ls (.int 1000 :: st) σ τ := rr_sipush 1000 dX10_mended_73 (by decide)
theorem r114_76 (d : Nat) (st : List Value) (σ : am_St) (τ : Int64) (x : Int32) (v0 v1 v2 v3 v4 v5 v6 v7 : Value) : am_run d 114 76 [v0, v1, v2, v3, v4, v5, v6, v7] (.int x :: st) σ τ = am_run d 114 78 [v0, v1, v2, am_nl v3, .int x, v5, v6, v7] st σ τ := rr_istore _ dX10_mended_76 (by decide) (by first | rfl | (by_cases h : v3.category = 2 <;> simp [am_set1, am_nl, h]))
theorem r114_78 (d : Nat) (ls st : List Value) (σ : am_St) (τ : Int64) : am_run d 114 78 ls st σ τ = am_run d 114 79 ls (.int 0 :: st) σ τ := rr_iconst 0 dX10_mended_78 (by decide)
theorem r114_79 (d : Nat) (st : List Value) (σ : am_St) (τ : Int64) (x : Int32) (v0 v1 v2 v3 v4 v5 v6 v7 : Value) : am_run d 114 79 [v0, v1, v2, v3, v4, v5, v6, v7] (.int x :: st) σ τ = am_run d 114 81 [v0, v1, v2, v3, am_nl v4, .int x, v6, v7] st σ τ := rr_istore _ dX10_mended_79 (by decide) (by first | rfl | (by_cases h : v4.category = 2 <;> simp [am_set1, am_nl, h]))
theorem r114_81 (d : Nat) (st : List Value) (σ : am_St) (τ : Int64) (x : Int32) (v0 v1 v2 v3 v4 v6 v7 : Value) : am_run d 114 81 [v0, v1, v2, v3, v4, .int x, v6, v7] st σ τ = am_run d 114 83 [v0, v1, v2, v3, v4, .int x, v6, v7] (.int x :: st) σ τ := rr_iload dX10_mended_81 rfl
theorem r114_83 (d : Nat) (st : List Value) (σ : am_St) (τ : Int64) (x : Int32) (v0 v1 v2 v4 v5 v6 v7 : Value) : am_run d 114 83 [v0, v1, v2, .int x, v4, v5, v6, v7] st σ τ = am_run d 114 84 [v0, v1, v2, .int x, v4, v5, v6, v7] (.int x :: st) σ τ := rr_iload_n dX10_mended_83 rfl
theorem r114_84 (d : Nat) (ls st : List Value) (σ : am_St) (τ : Int64) (x y : Int32) : am_run d 114 84 ls (.int y :: .int x :: st) σ τ = if y ≤ x then am_run d 114 190 ls st σ τ else am_run d 114 87 ls st σ τ := (rr_icmp 190 dX10_mended_84 (by decide)).trans am_sel
theorem r114_87 (d : Nat) (st : List Value) (σ : am_St) (τ : Int64) (x : Int32) (v0 v1 v2 v3 v4 v6 v7 : Value) : am_run d 114 87 [v0, v1, v2, v3, v4, .int x, v6, v7] st σ τ = am_run d 114 89 [v0, v1, v2, v3, v4, .int x, v6, v7] (.int x :: st) σ τ := rr_iload dX10_mended_87 rfl
theorem r114_89 (d : Nat) (st : List Value) (σ : am_St) (τ : Int64) (x : Int32) (v0 v1 v2 v3 v4 v5 v6 v7 : Value) : am_run d 114 89 [v0, v1, v2, v3, v4, v5, v6, v7] (.int x :: st) σ τ = am_run d 114 91 [v0, v1, v2, v3, v4, am_nl v5, .int x, v7] st σ τ := rr_istore _ dX10_mended_89 (by decide) (by first | rfl | (by_cases h : v5.category = 2 <;> simp [am_set1, am_nl, h]))
theorem r114_91 (d : Nat) (st : List Value) (σ : am_St) (τ : Int64) (x : Int32) (v0 v1 v3 v4 v5 v6 v7 : Value) : am_run d 114 91 [v0, v1, .int x, v3, v4, v5, v6, v7] st σ τ = am_run d 114 92 [v0, v1, .int x, v3, v4, v5, v6, v7] (.int x :: st) σ τ := rr_iload_n dX10_mended_91 rfl
theorem r114_92 (d : Nat) (ls st : List Value) (σ : am_St) (τ : Int64) : am_run d 114 92 ls st σ τ = am_run d 114 93 ls (.int 1 :: st) σ τ := rr_iconst 1 dX10_mended_92 (by decide)
theorem r114_93 (d : Nat) (ls st : List Value) (σ : am_St) (τ : Int64) (x y : Int32) : am_run d 114 93 ls (.int y :: .int x :: st) σ τ = am_run d 114 94 ls (.int (x - y) :: st) σ τ := rr_isub dX10_mended_93
theorem r114_94 (d : Nat) (st : List Value) (σ : am_St) (τ : Int64) (x : Int32) (v0 v1 v2 v3 v4 v5 v6 v7 : Value) : am_run d 114 94 [v0, v1, v2, v3, v4, v5, v6, v7] (.int x :: st) σ τ = am_run d 114 96 [v0, v1, v2, v3, v4, v5, am_nl v6, .int x] st σ τ := rr_istore _ dX10_mended_94 (by decide) (by first | rfl | (by_cases h : v6.category = 2 <;> simp [am_set1, am_nl, h]))
theorem r114_96 (d : Nat) (st : List Value) (σ : am_St) (τ : Int64) (x : Int32) (v0 v1 v2 v3 v4 v5 v6 : Value) : am_run d 114 96 [v0, v1, v2, v3, v4, v5, v6, .int x] st σ τ = am_run d 114 98 [v0, v1, v2, v3, v4, v5, v6, .int x] (.int x :: st) σ τ := rr_iload dX10_mended_96 rfl
theorem r114_98 (d : Nat) (ls st : List Value) (σ : am_St) (τ : Int64) (x : Int32) : am_run d 114 98 ls (.int x :: st) σ τ = if x < 0 then am_run d 114 131 ls st σ τ else am_run d 114 101 ls st σ τ := (rr_if 131 dX10_mended_98 (by decide)).trans am_sel
theorem r114_101 (d : Nat) (st : List Value) (σ : am_St) (τ : Int64) (x : Nat) (v1 v2 v3 v4 v5 v6 v7 : Value) : am_run d 114 101 [.ref x, v1, v2, v3, v4, v5, v6, v7] st σ τ = am_run d 114 102 [.ref x, v1, v2, v3, v4, v5, v6, v7] (.ref x :: st) σ τ := rr_aload_n dX10_mended_101 rfl
theorem r114_102 (d : Nat) (ls st : List Value) (σ : am_St) (τ : Int64) (k : Nat) : am_run d 114 102 ls (.ref k :: st) σ τ = am_gf k 10 18 σ τ (fun v => am_run d 114 105 ls (v :: st) σ τ) := rr_getf dX10_mended_102 (by decide +kernel)
theorem r114_105 (d : Nat) (st : List Value) (σ : am_St) (τ : Int64) (x : Nat) (v1 v2 v3 v4 v5 v6 v7 : Value) : am_run d 114 105 [.ref x, v1, v2, v3, v4, v5, v6, v7] st σ τ = am_run d 114 106 [.ref x, v1, v2, v3, v4, v5, v6, v7] (.ref x :: st) σ τ := rr_aload_n dX10_mended_105 rfl
theorem r114_106 (d : Nat) (ls st : List Value) (σ : am_St) (τ : Int64) (k : Nat) : am_run d 114 106 ls (.ref k :: st) σ τ = am_gf k 10 22 σ τ (fun v => am_run d 114 109 ls (v :: st) σ τ) := rr_getf dX10_mended_106 (by decide +kernel)
theorem r114_109 (d : Nat) (st : List Value) (σ : am_St) (τ : Int64) (x : Int32) (v0 v1 v2 v3 v4 v5 v6 : Value) : am_run d 114 109 [v0, v1, v2, v3, v4, v5, v6, .int x] st σ τ = am_run d 114 111 [v0, v1, v2, v3, v4, v5, v6, .int x] (.int x :: st) σ τ := rr_iload dX10_mended_109 rfl
theorem r114_111 (d : Nat) (ls st : List Value) (σ : am_St) (τ : Int64) (i : Int32) (k : Nat) : am_run d 114 111 ls (.int i :: .ref k :: st) σ τ = am_ai false k i (fun j => am_run d 114 112 ls (.int (σ k j) :: st) σ τ) := rr_iald dX10_mended_111
theorem r114_112 (d : Nat) (st : List Value) (σ : am_St) (τ : Int64) (x : Int32) (v0 v1 v2 v3 v4 v5 v7 : Value) : am_run d 114 112 [v0, v1, v2, v3, v4, v5, .int x, v7] st σ τ = am_run d 114 114 [v0, v1, v2, v3, v4, v5, .int x, v7] (.int x :: st) σ τ := rr_iload dX10_mended_112 rfl
theorem r114_114 (d : Nat) (ls st : List Value) (σ : am_St) (τ : Int64) : am_run d 114 114 ls st σ τ = am_run d 114 116 ls (.int 6 :: st) σ τ := rr_bipush 6 dX10_mended_114 (by decide)
theorem r114_116 (d : Nat) (ls st : List Value) (σ : am_St) (τ : Int64) (x y : Int32) : am_run d 114 116 ls (.int y :: .int x :: st) σ τ = if y = 0 then none else am_run d 114 117 ls (.int (x - x / y * y) :: st) σ τ := rr_irem dX10_mended_116
theorem r114_117 (d : Nat) (ls st : List Value) (σ : am_St) (τ : Int64) (x i : Int32) (k : Nat) : am_run d 114 117 ls (.int x :: .int i :: .ref k :: st) σ τ = am_ai false k i (fun j => am_run d 114 118 ls st (am_up σ k j x) τ) := rr_iast dX10_mended_117
theorem r114_118 (d : Nat) (st : List Value) (σ : am_St) (τ : Int64) (x : Int32) (v0 v1 v2 v3 v4 v5 v7 : Value) : am_run d 114 118 [v0, v1, v2, v3, v4, v5, .int x, v7] st σ τ = am_run d 114 120 [v0, v1, v2, v3, v4, v5, .int x, v7] (.int x :: st) σ τ := rr_iload dX10_mended_118 rfl
theorem r114_120 (d : Nat) (ls st : List Value) (σ : am_St) (τ : Int64) : am_run d 114 120 ls st σ τ = am_run d 114 122 ls (.int 6 :: st) σ τ := rr_bipush 6 dX10_mended_120 (by decide)
theorem r114_122 (d : Nat) (ls st : List Value) (σ : am_St) (τ : Int64) (x y : Int32) : am_run d 114 122 ls (.int y :: .int x :: st) σ τ = if y = 0 then none else am_run d 114 123 ls (.int (x / y) :: st) σ τ := rr_idiv dX10_mended_122
theorem r114_123 (d : Nat) (st : List Value) (σ : am_St) (τ : Int64) (x : Int32) (v0 v1 v2 v3 v4 v5 v6 v7 : Value) : am_run d 114 123 [v0, v1, v2, v3, v4, v5, v6, v7] (.int x :: st) σ τ = am_run d 114 125 [v0, v1, v2, v3, v4, am_nl v5, .int x, v7] st σ τ := rr_istore _ dX10_mended_123 (by decide) (by first | rfl | (by_cases h : v5.category = 2 <;> simp [am_set1, am_nl, h]))
theorem r114_125 (d : Nat) (st : List Value) (σ : am_St) (τ : Int64) (x : Int32) (v0 v1 v2 v3 v4 v5 v6 : Value) : am_run d 114 125 [v0, v1, v2, v3, v4, v5, v6, .int x] st σ τ = am_run d 114 128 [v0, v1, v2, v3, v4, v5, am_nl v6, .int (x + (-1))] st σ τ := rr_iinc (-1) _ dX10_mended_125 rfl (by decide) (by decide) (by first | rfl | (by_cases h : v6.category = 2 <;> simp [am_set1, am_nl, h]))
theorem r114_128 (d : Nat) (ls st : List Value) (σ : am_St) (τ : Int64) : am_run d 114 128 ls st σ τ = am_run d 114 96 ls st σ τ := rr_goto 96 dX10_mended_128 (by decide)
theorem r114_131 (d : Nat) (st : List Value) (σ : am_St) (τ : Int64) (x : Nat) (v1 v2 v3 v4 v5 v6 v7 : Value) : am_run d 114 131 [.ref x, v1, v2, v3, v4, v5, v6, v7] st σ τ = am_run d 114 132 [.ref x, v1, v2, v3, v4, v5, v6, v7] (.ref x :: st) σ τ := rr_aload_n dX10_mended_131 rfl
theorem r114_132 (d : Nat) (ls st : List Value) (σ : am_St) (τ : Int64) (k : Nat)  (hk : am_kc k = 10) (hc : am_cats st ≤ 8) : am_run (d + 1) 114 132 ls (.ref k :: st) σ τ = (am_call d 99 [.ref k] σ τ).bind (fun r => am_run (d + 1) 114 135 ls (r.1.toList ++ st) r.2.1 r.2.2) := rr_invv [] dX10_mended_132 (by decide +kernel) (by decide) rfl (Nat.le_of_ble_eq_true rfl) hk hc
theorem r114_135 (d : Nat) (st : List Value) (σ : am_St) (τ : Int64) (x : Nat) (v1 v2 v3 v4 v5 v6 v7 : Value) : am_run d 114 135 [.ref x, v1, v2, v3, v4, v5, v6, v7] st σ τ = am_run d 114 136 [.ref x, v1, v2, v3, v4, v5, v6, v7] (.ref x :: st) σ τ := rr_aload_n dX10_mended_135 rfl
theorem r114_136 (d : Nat) (ls st : List Value) (σ : am_St) (τ : Int64) (k : Nat)  (hk : am_kc k = 10) (hc : am_cats st ≤ 8) : am_run (d + 1) 114 136 ls (.ref k :: st) σ τ = (am_call d 102 [.ref k] σ τ).bind (fun r => am_run (d + 1) 114 139 ls (r.1.toList ++ st) r.2.1 r.2.2) := rr_invv [] dX10_mended_136 (by decide +kernel) (by decide) rfl (Nat.le_of_ble_eq_true rfl) hk hc
theorem r114_139 (d : Nat) (st : List Value) (σ : am_St) (τ : Int64) (x : Int32) (v0 v1 v2 v3 v5 v6 v7 : Value) : am_run d 114 139 [v0, v1, v2, v3, .int x, v5, v6, v7] st σ τ = am_run d 114 141 [v0, v1, v2, v3, .int x, v5, v6, v7] (.int x :: st) σ τ := rr_iload dX10_mended_139 rfl
theorem r114_141 (d : Nat) (ls st : List Value) (σ : am_St) (τ : Int64) (x y : Int32) : am_run d 114 141 ls (.int y :: .int x :: st) σ τ = if y ≤ x then am_run d 114 184 ls st σ τ else am_run d 114 144 ls st σ τ := (rr_icmp 184 dX10_mended_141 (by decide)).trans am_sel
theorem r114_144 (d : Nat) (st : List Value) (σ : am_St) (τ : Int64) (x : Nat) (v1 v2 v3 v4 v5 v6 v7 : Value) : am_run d 114 144 [.ref x, v1, v2, v3, v4, v5, v6, v7] st σ τ = am_run d 114 145 [.ref x, v1, v2, v3, v4, v5, v6, v7] (.ref x :: st) σ τ := rr_aload_n dX10_mended_144 rfl
theorem r114_145 (d : Nat) (ls st : List Value) (σ : am_St) (τ : Int64) (k : Nat)  (hk : am_kc k = 10) (hc : am_cats st ≤ 8) : am_run (d + 1) 114 145 ls (.ref k :: st) σ τ = (am_call d 102 [.ref k] σ τ).bind (fun r => am_run (d + 1) 114 148 ls (r.1.toList ++ st) r.2.1 r.2.2) := rr_invv [] dX10_mended_145 (by decide +kernel) (by decide) rfl (Nat.le_of_ble_eq_true rfl) hk hc
theorem r114_148 (d : Nat) (st : List Value) (σ : am_St) (τ : Int64) (x : Int32) (v0 v1 v2 v3 v4 v5 v6 v7 : Value) : am_run d 114 148 [v0, v1, v2, v3, v4, v5, v6, v7] (.int x :: st) σ τ = am_run d 114 150 [v0, v1, v2, am_nl v3, .int x, v5, v6, v7] st σ τ := rr_istore _ dX10_mended_148 (by decide) (by first | rfl | (by_cases h : v3.category = 2 <;> simp [am_set1, am_nl, h]))
theorem r114_150 (d : Nat) (ls st : List Value) (σ : am_St) (τ : Int64) : am_run d 114 150 ls st σ τ = am_run d 114 151 ls (.int 0 :: st) σ τ := rr_iconst 0 dX10_mended_150 (by decide)
theorem r114_151 (d : Nat) (st : List Value) (σ : am_St) (τ : Int64) (x : Int32) (v0 v1 v2 v3 v4 v5 v6 v7 : Value) : am_run d 114 151 [v0, v1, v2, v3, v4, v5, v6, v7] (.int x :: st) σ τ = am_run d 114 153 [v0, v1, v2, v3, v4, v5, am_nl v6, .int x] st σ τ := rr_istore _ dX10_mended_151 (by decide) (by first | rfl | (by_cases h : v6.category = 2 <;> simp [am_set1, am_nl, h]))
theorem r114_153 (d : Nat) (st : List Value) (σ : am_St) (τ : Int64) (x : Int32) (v0 v1 v2 v3 v4 v5 v6 : Value) : am_run d 114 153 [v0, v1, v2, v3, v4, v5, v6, .int x] st σ τ = am_run d 114 155 [v0, v1, v2, v3, v4, v5, v6, .int x] (.int x :: st) σ τ := rr_iload dX10_mended_153 rfl
theorem r114_155 (d : Nat) (st : List Value) (σ : am_St) (τ : Int64) (x : Int32) (v0 v1 v3 v4 v5 v6 v7 : Value) : am_run d 114 155 [v0, v1, .int x, v3, v4, v5, v6, v7] st σ τ = am_run d 114 156 [v0, v1, .int x, v3, v4, v5, v6, v7] (.int x :: st) σ τ := rr_iload_n dX10_mended_155 rfl
theorem r114_156 (d : Nat) (ls st : List Value) (σ : am_St) (τ : Int64) (x y : Int32) : am_run d 114 156 ls (.int y :: .int x :: st) σ τ = if y ≤ x then am_run d 114 184 ls st σ τ else am_run d 114 159 ls st σ τ := (rr_icmp 184 dX10_mended_156 (by decide)).trans am_sel
theorem r114_159 (d : Nat) (st : List Value) (σ : am_St) (τ : Int64) (x : Nat) (v1 v2 v3 v4 v5 v6 v7 : Value) : am_run d 114 159 [.ref x, v1, v2, v3, v4, v5, v6, v7] st σ τ = am_run d 114 160 [.ref x, v1, v2, v3, v4, v5, v6, v7] (.ref x :: st) σ τ := rr_aload_n dX10_mended_159 rfl
theorem r114_160 (d : Nat) (ls st : List Value) (σ : am_St) (τ : Int64) (k : Nat) : am_run d 114 160 ls (.ref k :: st) σ τ = am_gf k 10 23 σ τ (fun v => am_run d 114 163 ls (v :: st) σ τ) := rr_getf dX10_mended_160 (by decide +kernel)
theorem r114_163 (d : Nat) (st : List Value) (σ : am_St) (τ : Int64) (x : Int32) (v0 v1 v2 v3 v4 v5 v6 : Value) : am_run d 114 163 [v0, v1, v2, v3, v4, v5, v6, .int x] st σ τ = am_run d 114 165 [v0, v1, v2, v3, v4, v5, v6, .int x] (.int x :: st) σ τ := rr_iload dX10_mended_163 rfl
theorem r114_165 (d : Nat) (st : List Value) (σ : am_St) (τ : Int64) (x : Nat) (v1 v2 v3 v4 v5 v6 v7 : Value) : am_run d 114 165 [.ref x, v1, v2, v3, v4, v5, v6, v7] st σ τ = am_run d 114 166 [.ref x, v1, v2, v3, v4, v5, v6, v7] (.ref x :: st) σ τ := rr_aload_n dX10_mended_165 rfl
theorem r114_166 (d : Nat) (ls st : List Value) (σ : am_St) (τ : Int64) (k : Nat) : am_run d 114 166 ls (.ref k :: st) σ τ = am_gf k 10 18 σ τ (fun v => am_run d 114 169 ls (v :: st) σ τ) := rr_getf dX10_mended_166 (by decide +kernel)
theorem r114_169 (d : Nat) (st : List Value) (σ : am_St) (τ : Int64) (x : Nat) (v1 v2 v3 v4 v5 v6 v7 : Value) : am_run d 114 169 [.ref x, v1, v2, v3, v4, v5, v6, v7] st σ τ = am_run d 114 170 [.ref x, v1, v2, v3, v4, v5, v6, v7] (.ref x :: st) σ τ := rr_aload_n dX10_mended_169 rfl
theorem r114_170 (d : Nat) (ls st : List Value) (σ : am_St) (τ : Int64) (k : Nat) : am_run d 114 170 ls (.ref k :: st) σ τ = am_gf k 10 22 σ τ (fun v => am_run d 114 173 ls (v :: st) σ τ) := rr_getf dX10_mended_170 (by decide +kernel)
theorem r114_173 (d : Nat) (st : List Value) (σ : am_St) (τ : Int64) (x : Int32) (v0 v1 v2 v3 v4 v5 v6 : Value) : am_run d 114 173 [v0, v1, v2, v3, v4, v5, v6, .int x] st σ τ = am_run d 114 175 [v0, v1, v2, v3, v4, v5, v6, .int x] (.int x :: st) σ τ := rr_iload dX10_mended_173 rfl
theorem r114_175 (d : Nat) (ls st : List Value) (σ : am_St) (τ : Int64) (i : Int32) (k : Nat) : am_run d 114 175 ls (.int i :: .ref k :: st) σ τ = am_ai false k i (fun j => am_run d 114 176 ls (.int (σ k j) :: st) σ τ) := rr_iald dX10_mended_175
theorem r114_176 (d : Nat) (ls st : List Value) (σ : am_St) (τ : Int64) (i : Int32) (k : Nat) : am_run d 114 176 ls (.int i :: .ref k :: st) σ τ = am_ai false k i (fun j => am_run d 114 177 ls (.int (σ k j) :: st) σ τ) := rr_iald dX10_mended_176
theorem r114_177 (d : Nat) (ls st : List Value) (σ : am_St) (τ : Int64) (x i : Int32) (k : Nat) : am_run d 114 177 ls (.int x :: .int i :: .ref k :: st) σ τ = am_ai false k i (fun j => am_run d 114 178 ls st (am_up σ k j x) τ) := rr_iast dX10_mended_177
theorem r114_178 (d : Nat) (st : List Value) (σ : am_St) (τ : Int64) (x : Int32) (v0 v1 v2 v3 v4 v5 v6 : Value) : am_run d 114 178 [v0, v1, v2, v3, v4, v5, v6, .int x] st σ τ = am_run d 114 181 [v0, v1, v2, v3, v4, v5, am_nl v6, .int (x + 1)] st σ τ := rr_iinc 1 _ dX10_mended_178 rfl (by decide) (by decide) (by first | rfl | (by_cases h : v6.category = 2 <;> simp [am_set1, am_nl, h]))
theorem r114_181 (d : Nat) (ls st : List Value) (σ : am_St) (τ : Int64) : am_run d 114 181 ls st σ τ = am_run d 114 153 ls st σ τ := rr_goto 153 dX10_mended_181 (by decide)
theorem r114_184 (d : Nat) (st : List Value) (σ : am_St) (τ : Int64) (x : Int32) (v0 v1 v2 v3 v4 v6 v7 : Value) : am_run d 114 184 [v0, v1, v2, v3, v4, .int x, v6, v7] st σ τ = am_run d 114 187 [v0, v1, v2, v3, am_nl v4, .int (x + 1), v6, v7] st σ τ := rr_iinc 1 _ dX10_mended_184 rfl (by decide) (by decide) (by first | rfl | (by_cases h : v4.category = 2 <;> simp [am_set1, am_nl, h]))
theorem r114_187 (d : Nat) (ls st : List Value) (σ : am_St) (τ : Int64) : am_run d 114 187 ls st σ τ = am_run d 114 81 ls st σ τ := rr_goto 81 dX10_mended_187 (by decide)
theorem r114_190 (d : Nat) (st : List Value) (σ : am_St) (τ : Int64) (x : Int32) (v0 v2 v3 v4 v5 v6 v7 : Value) : am_run d 114 190 [v0, .int x, v2, v3, v4, v5, v6, v7] st σ τ = am_run d 114 191 [v0, .int x, v2, v3, v4, v5, v6, v7] (.int x :: st) σ τ := rr_iload_n dX10_mended_190 rfl
theorem r114_191 (d : Nat) (ls st : List Value) (σ : am_St) (τ : Int64) (x : Int32) : am_run d 114 191 ls (.int x :: st) σ τ = if x = 0 then am_run d 114 194 ls st σ τ else am_run d 114 199 ls st σ τ := (rr_if 199 dX10_mended_191 (by decide)).trans am_seln
theorem r114_194 (d : Nat) (st : List Value) (σ : am_St) (τ : Int64) (x : Int32) (v0 v1 v2 v3 v5 v6 v7 : Value) : am_run d 114 194 [v0, v1, v2, v3, .int x, v5, v6, v7] st σ τ = am_run d 114 196 [v0, v1, v2, v3, .int x, v5, v6, v7] (.int x :: st) σ τ := rr_iload dX10_mended_194 rfl
theorem r114_196 (d : Nat) (ls st : List Value) (σ : am_St) (τ : Int64) : am_run d 114 196 ls st σ τ = am_run d 114 216 ls st σ τ := rr_goto 216 dX10_mended_196 (by decide)
theorem r114_199 (d : Nat) (st : List Value) (σ : am_St) (τ : Int64) (x : Int32) (v0 v2 v3 v4 v5 v6 v7 : Value) : am_run d 114 199 [v0, .int x, v2, v3, v4, v5, v6, v7] st σ τ = am_run d 114 200 [v0, .int x, v2, v3, v4, v5, v6, v7] (.int x :: st) σ τ := rr_iload_n dX10_mended_199 rfl
theorem r114_200 (d : Nat) (st : List Value) (σ : am_St) (τ : Int64) (x : Int32) (v0 v1 v3 v4 v5 v6 v7 : Value) : am_run d 114 200 [v0, v1, .int x, v3, v4, v5, v6, v7] st σ τ = am_run d 114 201 [v0, v1, .int x, v3, v4, v5, v6, v7] (.int x :: st) σ τ := rr_iload_n dX10_mended_200 rfl
theorem r114_201 (d : Nat) (ls st : List Value) (σ : am_St) (τ : Int64) (x y : Int32) : am_run d 114 201 ls (.int y :: .int x :: st) σ τ = if y < x then am_run d 114 215 ls st σ τ else am_run d 114 204 ls st σ τ := (rr_icmp 215 dX10_mended_201 (by decide)).trans am_sel
theorem r114_204 (d : Nat) (st : List Value) (σ : am_St) (τ : Int64) (x : Nat) (v1 v2 v3 v4 v5 v6 v7 : Value) : am_run d 114 204 [.ref x, v1, v2, v3, v4, v5, v6, v7] st σ τ = am_run d 114 205 [.ref x, v1, v2, v3, v4, v5, v6, v7] (.ref x :: st) σ τ := rr_aload_n dX10_mended_204 rfl
theorem r114_205 (d : Nat) (ls st : List Value) (σ : am_St) (τ : Int64) (k : Nat) : am_run d 114 205 ls (.ref k :: st) σ τ = am_gf k 10 23 σ τ (fun v => am_run d 114 208 ls (v :: st) σ τ) := rr_getf dX10_mended_205 (by decide +kernel)
theorem r114_208 (d : Nat) (st : List Value) (σ : am_St) (τ : Int64) (x : Int32) (v0 v2 v3 v4 v5 v6 v7 : Value) : am_run d 114 208 [v0, .int x, v2, v3, v4, v5, v6, v7] st σ τ = am_run d 114 209 [v0, .int x, v2, v3, v4, v5, v6, v7] (.int x :: st) σ τ := rr_iload_n dX10_mended_208 rfl
theorem r114_209 (d : Nat) (ls st : List Value) (σ : am_St) (τ : Int64) : am_run d 114 209 ls st σ τ = am_run d 114 210 ls (.int 1 :: st) σ τ := rr_iconst 1 dX10_mended_209 (by decide)
theorem r114_210 (d : Nat) (ls st : List Value) (σ : am_St) (τ : Int64) (x y : Int32) : am_run d 114 210 ls (.int y :: .int x :: st) σ τ = am_run d 114 211 ls (.int (x - y) :: st) σ τ := rr_isub dX10_mended_210
theorem r114_211 (d : Nat) (ls st : List Value) (σ : am_St) (τ : Int64) (i : Int32) (k : Nat) : am_run d 114 211 ls (.int i :: .ref k :: st) σ τ = am_ai false k i (fun j => am_run d 114 212 ls (.int (σ k j) :: st) σ τ) := rr_iald dX10_mended_211
theorem r114_212 (d : Nat) (ls st : List Value) (σ : am_St) (τ : Int64) : am_run d 114 212 ls st σ τ = am_run d 114 216 ls st σ τ := rr_goto 216 dX10_mended_212 (by decide)
theorem r114_215 (d : Nat) (ls st : List Value) (σ : am_St) (τ : Int64) : am_run d 114 215 ls st σ τ = am_run d 114 216 ls (.int (-1) :: st) σ τ := rr_iconst (-1) dX10_mended_215 (by decide)
theorem r114_216 (d : Nat) (ls : List Value) (σ : am_St) (τ : Int64) (x : Int32) : am_run d 114 216 ls [.int x] σ τ = some (some (.int x), σ, τ) := rr_iret dX10_mended_216 rfl
theorem dX10_isMan_0 : decode (am_code 115) 0 = .ok (.iload_n 1, 1) := by decide +kernel
theorem dX10_isMan_1 : decode (am_code 115) 1 = .ok (.iload_n 2, 1) := by decide +kernel
theorem dX10_isMan_2 : decode (am_code 115) 2 = .ok (.if_icmp .ge 16, 3) := by decide +kernel
theorem dX10_isMan_5 : decode (am_code 115) 5 = .ok (.aload_n 0, 1) := by decide +kernel
theorem dX10_isMan_6 : decode (am_code 115) 6 = .ok (.getfield 22, 3) := by decide +kernel
theorem dX10_isMan_9 : decode (am_code 115) 9 = .ok (.iload_n 1, 1) := by decide +kernel
theorem dX10_isMan_10 : decode (am_code 115) 10 = .ok (.iaload, 1) := by decide +kernel
theorem dX10_isMan_11 : decode (am_code 115) 11 = .ok (.ifCond .ne 7, 3) := by decide +kernel
theorem dX10_isMan_14 : decode (am_code 115) 14 = .ok (.iconst 1, 1) := by decide +kernel
theorem dX10_isMan_15 : decode (am_code 115) 15 = .ok (.goto 4, 3) := by decide +kernel
theorem dX10_isMan_18 : decode (am_code 115) 18 = .ok (.iconst 0, 1) := by decide +kernel
theorem dX10_isMan_19 : decode (am_code 115) 19 = .ok (.ireturn, 1) := by decide +kernel
theorem r115_0 (d : Nat) (st : List Value) (σ : am_St) (τ : Int64) (x : Int32) (v0 v2 : Value) : am_run d 115 0 [v0, .int x, v2] st σ τ = am_run d 115 1 [v0, .int x, v2] (.int x :: st) σ τ := rr_iload_n dX10_isMan_0 rfl
theorem r115_1 (d : Nat) (st : List Value) (σ : am_St) (τ : Int64) (x : Int32) (v0 v1 : Value) : am_run d 115 1 [v0, v1, .int x] st σ τ = am_run d 115 2 [v0, v1, .int x] (.int x :: st) σ τ := rr_iload_n dX10_isMan_1 rfl
theorem r115_2 (d : Nat) (ls st : List Value) (σ : am_St) (τ : Int64) (x y : Int32) : am_run d 115 2 ls (.int y :: .int x :: st) σ τ = if y ≤ x then am_run d 115 18 ls st σ τ else am_run d 115 5 ls st σ τ := (rr_icmp 18 dX10_isMan_2 (by decide)).trans am_sel
theorem r115_5 (d : Nat) (st : List Value) (σ : am_St) (τ : Int64) (x : Nat) (v1 v2 : Value) : am_run d 115 5 [.ref x, v1, v2] st σ τ = am_run d 115 6 [.ref x, v1, v2] (.ref x :: st) σ τ := rr_aload_n dX10_isMan_5 rfl
theorem r115_6 (d : Nat) (ls st : List Value) (σ : am_St) (τ : Int64) (k : Nat) : am_run d 115 6 ls (.ref k :: st) σ τ = am_gf k 10 9 σ τ (fun v => am_run d 115 9 ls (v :: st) σ τ) := rr_getf dX10_isMan_6 (by decide +kernel)
theorem r115_9 (d : Nat) (st : List Value) (σ : am_St) (τ : Int64) (x : Int32) (v0 v2 : Value) : am_run d 115 9 [v0, .int x, v2] st σ τ = am_run d 115 10 [v0, .int x, v2] (.int x :: st) σ τ := rr_iload_n dX10_isMan_9 rfl
theorem r115_10 (d : Nat) (ls st : List Value) (σ : am_St) (τ : Int64) (i : Int32) (k : Nat) : am_run d 115 10 ls (.int i :: .ref k :: st) σ τ = am_ai false k i (fun j => am_run d 115 11 ls (.int (σ k j) :: st) σ τ) := rr_iald dX10_isMan_10
theorem r115_11 (d : Nat) (ls st : List Value) (σ : am_St) (τ : Int64) (x : Int32) : am_run d 115 11 ls (.int x :: st) σ τ = if x = 0 then am_run d 115 14 ls st σ τ else am_run d 115 18 ls st σ τ := (rr_if 18 dX10_isMan_11 (by decide)).trans am_seln
theorem r115_14 (d : Nat) (ls st : List Value) (σ : am_St) (τ : Int64) : am_run d 115 14 ls st σ τ = am_run d 115 15 ls (.int 1 :: st) σ τ := rr_iconst 1 dX10_isMan_14 (by decide)
theorem r115_15 (d : Nat) (ls st : List Value) (σ : am_St) (τ : Int64) : am_run d 115 15 ls st σ τ = am_run d 115 19 ls st σ τ := rr_goto 19 dX10_isMan_15 (by decide)
theorem r115_18 (d : Nat) (ls st : List Value) (σ : am_St) (τ : Int64) : am_run d 115 18 ls st σ τ = am_run d 115 19 ls (.int 0 :: st) σ τ := rr_iconst 0 dX10_isMan_18 (by decide)
theorem r115_19 (d : Nat) (ls : List Value) (σ : am_St) (τ : Int64) (x : Int32) (hx : x = 0 ∨ x = 1) : am_run d 115 19 ls [.int x] σ τ = some (some (.int x), σ, τ) := rr_zret dX10_isMan_19 rfl hx
theorem dX10_layWays_0 : decode (am_code 116) 0 = .ok (.aload_n 0, 1) := by decide +kernel
theorem dX10_layWays_1 : decode (am_code 116) 1 = .ok (.invokevirtual 162, 3) := by decide +kernel
theorem dX10_layWays_4 : decode (am_code 116) 4 = .ok (.iconst 0, 1) := by decide +kernel
theorem dX10_layWays_5 : decode (am_code 116) 5 = .ok (.istore_n 1, 1) := by decide +kernel
theorem dX10_layWays_6 : decode (am_code 116) 6 = .ok (.iconst 0, 1) := by decide +kernel
theorem dX10_layWays_7 : decode (am_code 116) 7 = .ok (.istore_n 2, 1) := by decide +kernel
theorem dX10_layWays_8 : decode (am_code 116) 8 = .ok (.iload_n 2, 1) := by decide +kernel
theorem dX10_layWays_9 : decode (am_code 116) 9 = .ok (.aload_n 0, 1) := by decide +kernel
theorem dX10_layWays_10 : decode (am_code 116) 10 = .ok (.getfield 129, 3) := by decide +kernel
theorem dX10_layWays_13 : decode (am_code 116) 13 = .ok (.if_icmp .ge 37, 3) := by decide +kernel
theorem dX10_layWays_16 : decode (am_code 116) 16 = .ok (.aload_n 0, 1) := by decide +kernel
theorem dX10_layWays_17 : decode (am_code 116) 17 = .ok (.getfield 64, 3) := by decide +kernel
theorem dX10_layWays_20 : decode (am_code 116) 20 = .ok (.iload_n 2, 1) := by decide +kernel
theorem dX10_layWays_21 : decode (am_code 116) 21 = .ok (.iconst 0, 1) := by decide +kernel
theorem dX10_layWays_22 : decode (am_code 116) 22 = .ok (.iastore, 1) := by decide +kernel
theorem dX10_layWays_23 : decode (am_code 116) 23 = .ok (.aload_n 0, 1) := by decide +kernel
theorem dX10_layWays_24 : decode (am_code 116) 24 = .ok (.getfield 25, 3) := by decide +kernel
theorem dX10_layWays_27 : decode (am_code 116) 27 = .ok (.iload_n 2, 1) := by decide +kernel
theorem dX10_layWays_28 : decode (am_code 116) 28 = .ok (.iaload, 1) := by decide +kernel
theorem dX10_layWays_29 : decode (am_code 116) 29 = .ok (.bipush (-2), 2) := by decide +kernel
theorem dX10_layWays_31 : decode (am_code 116) 31 = .ok (.if_icmp .ne 13, 3) := by decide +kernel
theorem dX10_layWays_34 : decode (am_code 116) 34 = .ok (.aload_n 0, 1) := by decide +kernel
theorem dX10_layWays_35 : decode (am_code 116) 35 = .ok (.getfield 67, 3) := by decide +kernel
theorem dX10_layWays_38 : decode (am_code 116) 38 = .ok (.iload_n 1, 1) := by decide +kernel
theorem dX10_layWays_39 : decode (am_code 116) 39 = .ok (.iload_n 2, 1) := by decide +kernel
theorem dX10_layWays_40 : decode (am_code 116) 40 = .ok (.iastore, 1) := by decide +kernel
theorem dX10_layWays_41 : decode (am_code 116) 41 = .ok (.iinc 1 1, 3) := by decide +kernel
theorem dX10_layWays_44 : decode (am_code 116) 44 = .ok (.iinc 2 1, 3) := by decide +kernel
theorem dX10_layWays_47 : decode (am_code 116) 47 = .ok (.goto (-39), 3) := by decide +kernel
theorem dX10_layWays_50 : decode (am_code 116) 50 = .ok (.iconst 0, 1) := by decide +kernel
theorem dX10_layWays_51 : decode (am_code 116) 51 = .ok (.istore_n 2, 1) := by decide +kernel
theorem dX10_layWays_52 : decode (am_code 116) 52 = .ok (.iload_n 1, 1) := by decide +kernel
theorem dX10_layWays_53 : decode (am_code 116) 53 = .ok (.ifCond .ne 7, 3) := by decide +kernel
theorem dX10_layWays_56 : decode (am_code 116) 56 = .ok (.iconst 1, 1) := by decide +kernel
theorem dX10_layWays_57 : decode (am_code 116) 57 = .ok (.goto 27, 3) := by decide +kernel
theorem dX10_layWays_60 : decode (am_code 116) 60 = .ok (.iload_n 1, 1) := by decide +kernel
theorem dX10_layWays_61 : decode (am_code 116) 61 = .ok (.iconst 1, 1) := by decide +kernel
theorem dX10_layWays_62 : decode (am_code 116) 62 = .ok (.if_icmp .ne 8, 3) := by decide +kernel
theorem dX10_layWays_65 : decode (am_code 116) 65 = .ok (.bipush 12, 2) := by decide +kernel
theorem dX10_layWays_67 : decode (am_code 116) 67 = .ok (.goto 17, 3) := by decide +kernel
theorem dX10_layWays_70 : decode (am_code 116) 70 = .ok (.iload_n 1, 1) := by decide +kernel
theorem dX10_layWays_71 : decode (am_code 116) 71 = .ok (.iconst 2, 1) := by decide +kernel
theorem dX10_layWays_72 : decode (am_code 116) 72 = .ok (.if_icmp .ne 9, 3) := by decide +kernel
theorem dX10_layWays_75 : decode (am_code 116) 75 = .ok (.sipush 144, 3) := by decide +kernel
theorem dX10_layWays_78 : decode (am_code 116) 78 = .ok (.goto 6, 3) := by decide +kernel
theorem dX10_layWays_81 : decode (am_code 116) 81 = .ok (.sipush 1728, 3) := by decide +kernel
theorem dX10_layWays_84 : decode (am_code 116) 84 = .ok (.istore_n 3, 1) := by decide +kernel
theorem dX10_layWays_85 : decode (am_code 116) 85 = .ok (.iconst 0, 1) := by decide +kernel
theorem dX10_layWays_86 : decode (am_code 116) 86 = .ok (.istore 4, 2) := by decide +kernel
theorem dX10_layWays_88 : decode (am_code 116) 88 = .ok (.iload 4, 2) := by decide +kernel
theorem dX10_layWays_90 : decode (am_code 116) 90 = .ok (.iload_n 3, 1) := by decide +kernel
theorem dX10_layWays_91 : decode (am_code 116) 91 = .ok (.if_icmp .ge 179, 3) := by decide +kernel
theorem dX10_layWays_94 : decode (am_code 116) 94 = .ok (.iload 4, 2) := by decide +kernel
theorem dX10_layWays_96 : decode (am_code 116) 96 = .ok (.istore 5, 2) := by decide +kernel
theorem dX10_layWays_98 : decode (am_code 116) 98 = .ok (.iconst 1, 1) := by decide +kernel
theorem dX10_layWays_99 : decode (am_code 116) 99 = .ok (.istore 6, 2) := by decide +kernel
theorem dX10_layWays_101 : decode (am_code 116) 101 = .ok (.iconst 0, 1) := by decide +kernel
theorem dX10_layWays_102 : decode (am_code 116) 102 = .ok (.istore 7, 2) := by decide +kernel
theorem dX10_layWays_104 : decode (am_code 116) 104 = .ok (.iload 7, 2) := by decide +kernel
theorem dX10_layWays_106 : decode (am_code 116) 106 = .ok (.iload_n 1, 1) := by decide +kernel
theorem dX10_layWays_107 : decode (am_code 116) 107 = .ok (.if_icmp .ge 64, 3) := by decide +kernel
theorem dX10_layWays_110 : decode (am_code 116) 110 = .ok (.aload_n 0, 1) := by decide +kernel
theorem dX10_layWays_111 : decode (am_code 116) 111 = .ok (.getfield 46, 3) := by decide +kernel
theorem dX10_layWays_114 : decode (am_code 116) 114 = .ok (.aload_n 0, 1) := by decide +kernel
theorem dX10_layWays_115 : decode (am_code 116) 115 = .ok (.getfield 67, 3) := by decide +kernel
theorem dX10_layWays_118 : decode (am_code 116) 118 = .ok (.iload 7, 2) := by decide +kernel
theorem dX10_layWays_120 : decode (am_code 116) 120 = .ok (.iaload, 1) := by decide +kernel
theorem dX10_layWays_121 : decode (am_code 116) 121 = .ok (.iload 5, 2) := by decide +kernel
theorem dX10_layWays_123 : decode (am_code 116) 123 = .ok (.bipush 12, 2) := by decide +kernel
theorem dX10_layWays_125 : decode (am_code 116) 125 = .ok (.irem, 1) := by decide +kernel
theorem dX10_layWays_126 : decode (am_code 116) 126 = .ok (.iastore, 1) := by decide +kernel
theorem dX10_layWays_127 : decode (am_code 116) 127 = .ok (.iload 6, 2) := by decide +kernel
theorem dX10_layWays_129 : decode (am_code 116) 129 = .ok (.ifCond .eq 26, 3) := by decide +kernel
theorem dX10_layWays_132 : decode (am_code 116) 132 = .ok (.aload_n 0, 1) := by decide +kernel
theorem dX10_layWays_133 : decode (am_code 116) 133 = .ok (.iload 5, 2) := by decide +kernel
theorem dX10_layWays_135 : decode (am_code 116) 135 = .ok (.bipush 12, 2) := by decide +kernel
theorem dX10_layWays_137 : decode (am_code 116) 137 = .ok (.irem, 1) := by decide +kernel
theorem dX10_layWays_138 : decode (am_code 116) 138 = .ok (.aload_n 0, 1) := by decide +kernel
theorem dX10_layWays_139 : decode (am_code 116) 139 = .ok (.getfield 67, 3) := by decide +kernel
theorem dX10_layWays_142 : decode (am_code 116) 142 = .ok (.iload 7, 2) := by decide +kernel
theorem dX10_layWays_144 : decode (am_code 116) 144 = .ok (.iaload, 1) := by decide +kernel
theorem dX10_layWays_145 : decode (am_code 116) 145 = .ok (.invokevirtual 194, 3) := by decide +kernel
theorem dX10_layWays_148 : decode (am_code 116) 148 = .ok (.ifCond .eq 7, 3) := by decide +kernel
theorem dX10_layWays_151 : decode (am_code 116) 151 = .ok (.iconst 1, 1) := by decide +kernel
theorem dX10_layWays_152 : decode (am_code 116) 152 = .ok (.goto 4, 3) := by decide +kernel
theorem dX10_layWays_155 : decode (am_code 116) 155 = .ok (.iconst 0, 1) := by decide +kernel
theorem dX10_layWays_156 : decode (am_code 116) 156 = .ok (.istore 6, 2) := by decide +kernel
theorem dX10_layWays_158 : decode (am_code 116) 158 = .ok (.iload 5, 2) := by decide +kernel
theorem dX10_layWays_160 : decode (am_code 116) 160 = .ok (.bipush 12, 2) := by decide +kernel
theorem dX10_layWays_162 : decode (am_code 116) 162 = .ok (.idiv, 1) := by decide +kernel
theorem dX10_layWays_163 : decode (am_code 116) 163 = .ok (.istore 5, 2) := by decide +kernel
theorem dX10_layWays_165 : decode (am_code 116) 165 = .ok (.iinc 7 1, 3) := by decide +kernel
theorem dX10_layWays_168 : decode (am_code 116) 168 = .ok (.goto (-64), 3) := by decide +kernel
theorem dX10_layWays_171 : decode (am_code 116) 171 = .ok (.iload 6, 2) := by decide +kernel
theorem dX10_layWays_173 : decode (am_code 116) 173 = .ok (.ifCond .eq 21, 3) := by decide +kernel
theorem dX10_layWays_176 : decode (am_code 116) 176 = .ok (.aload_n 0, 1) := by decide +kernel
theorem dX10_layWays_177 : decode (am_code 116) 177 = .ok (.invokevirtual 165, 3) := by decide +kernel
theorem dX10_layWays_180 : decode (am_code 116) 180 = .ok (.aload_n 0, 1) := by decide +kernel
theorem dX10_layWays_181 : decode (am_code 116) 181 = .ok (.invokevirtual 182, 3) := by decide +kernel
theorem dX10_layWays_184 : decode (am_code 116) 184 = .ok (.ifCond .ne 7, 3) := by decide +kernel
theorem dX10_layWays_187 : decode (am_code 116) 187 = .ok (.iconst 1, 1) := by decide +kernel
theorem dX10_layWays_188 : decode (am_code 116) 188 = .ok (.goto 4, 3) := by decide +kernel
theorem dX10_layWays_191 : decode (am_code 116) 191 = .ok (.iconst 0, 1) := by decide +kernel
theorem dX10_layWays_192 : decode (am_code 116) 192 = .ok (.istore 6, 2) := by decide +kernel
theorem dX10_layWays_194 : decode (am_code 116) 194 = .ok (.iload_n 2, 1) := by decide +kernel
theorem dX10_layWays_195 : decode (am_code 116) 195 = .ok (.iload 6, 2) := by decide +kernel
theorem dX10_layWays_197 : decode (am_code 116) 197 = .ok (.ifCond .eq 7, 3) := by decide +kernel
theorem dX10_layWays_200 : decode (am_code 116) 200 = .ok (.iconst 1, 1) := by decide +kernel
theorem dX10_layWays_201 : decode (am_code 116) 201 = .ok (.goto 4, 3) := by decide +kernel
theorem dX10_layWays_204 : decode (am_code 116) 204 = .ok (.iconst 0, 1) := by decide +kernel
theorem dX10_layWays_205 : decode (am_code 116) 205 = .ok (.iadd, 1) := by decide +kernel
theorem dX10_layWays_206 : decode (am_code 116) 206 = .ok (.istore_n 2, 1) := by decide +kernel
theorem dX10_layWays_207 : decode (am_code 116) 207 = .ok (.iconst 0, 1) := by decide +kernel
theorem dX10_layWays_208 : decode (am_code 116) 208 = .ok (.istore 7, 2) := by decide +kernel
theorem dX10_layWays_210 : decode (am_code 116) 210 = .ok (.iload 7, 2) := by decide +kernel
theorem dX10_layWays_212 : decode (am_code 116) 212 = .ok (.aload_n 0, 1) := by decide +kernel
theorem dX10_layWays_213 : decode (am_code 116) 213 = .ok (.getfield 129, 3) := by decide +kernel
theorem dX10_layWays_216 : decode (am_code 116) 216 = .ok (.if_icmp .ge 48, 3) := by decide +kernel
theorem dX10_layWays_219 : decode (am_code 116) 219 = .ok (.iload 6, 2) := by decide +kernel
theorem dX10_layWays_221 : decode (am_code 116) 221 = .ok (.ifCond .eq 43, 3) := by decide +kernel
theorem dX10_layWays_224 : decode (am_code 116) 224 = .ok (.aload_n 0, 1) := by decide +kernel
theorem dX10_layWays_225 : decode (am_code 116) 225 = .ok (.getfield 64, 3) := by decide +kernel
theorem dX10_layWays_228 : decode (am_code 116) 228 = .ok (.iload 7, 2) := by decide +kernel
theorem dX10_layWays_230 : decode (am_code 116) 230 = .ok (.dup2, 1) := by decide +kernel
theorem dX10_layWays_231 : decode (am_code 116) 231 = .ok (.iaload, 1) := by decide +kernel
theorem dX10_layWays_232 : decode (am_code 116) 232 = .ok (.aload_n 0, 1) := by decide +kernel
theorem dX10_layWays_233 : decode (am_code 116) 233 = .ok (.getfield 46, 3) := by decide +kernel
theorem dX10_layWays_236 : decode (am_code 116) 236 = .ok (.iload 7, 2) := by decide +kernel
theorem dX10_layWays_238 : decode (am_code 116) 238 = .ok (.iaload, 1) := by decide +kernel
theorem dX10_layWays_239 : decode (am_code 116) 239 = .ok (.iconst (-1), 1) := by decide +kernel
theorem dX10_layWays_240 : decode (am_code 116) 240 = .ok (.if_icmp .ne 7, 3) := by decide +kernel
theorem dX10_layWays_243 : decode (am_code 116) 243 = .ok (.iconst 0, 1) := by decide +kernel
theorem dX10_layWays_244 : decode (am_code 116) 244 = .ok (.goto 12, 3) := by decide +kernel
theorem dX10_layWays_247 : decode (am_code 116) 247 = .ok (.iconst 1, 1) := by decide +kernel
theorem dX10_layWays_248 : decode (am_code 116) 248 = .ok (.aload_n 0, 1) := by decide +kernel
theorem dX10_layWays_249 : decode (am_code 116) 249 = .ok (.getfield 46, 3) := by decide +kernel
theorem dX10_layWays_252 : decode (am_code 116) 252 = .ok (.iload 7, 2) := by decide +kernel
theorem dX10_layWays_254 : decode (am_code 116) 254 = .ok (.iaload, 1) := by decide +kernel
theorem dX10_layWays_255 : decode (am_code 116) 255 = .ok (.ishl, 1) := by decide +kernel
theorem dX10_layWays_256 : decode (am_code 116) 256 = .ok (.ior, 1) := by decide +kernel
theorem dX10_layWays_257 : decode (am_code 116) 257 = .ok (.iastore, 1) := by decide +kernel
theorem dX10_layWays_258 : decode (am_code 116) 258 = .ok (.iinc 7 1, 3) := by decide +kernel
theorem dX10_layWays_261 : decode (am_code 116) 261 = .ok (.goto (-51), 3) := by decide +kernel
theorem dX10_layWays_264 : decode (am_code 116) 264 = .ok (.iinc 4 1, 3) := by decide +kernel
theorem dX10_layWays_267 : decode (am_code 116) 267 = .ok (.goto (-179), 3) := by decide +kernel
theorem dX10_layWays_270 : decode (am_code 116) 270 = .ok (.iload_n 2, 1) := by decide +kernel
theorem dX10_layWays_271 : decode (am_code 116) 271 = .ok (.ireturn, 1) := by decide +kernel
theorem r116_0 (d : Nat) (st : List Value) (σ : am_St) (τ : Int64) (x : Nat) (v1 v2 v3 v4 v5 v6 v7 : Value) : am_run d 116 0 [.ref x, v1, v2, v3, v4, v5, v6, v7] st σ τ = am_run d 116 1 [.ref x, v1, v2, v3, v4, v5, v6, v7] (.ref x :: st) σ τ := rr_aload_n dX10_layWays_0 rfl
theorem r116_1 (d : Nat) (ls st : List Value) (σ : am_St) (τ : Int64) (k : Nat)  (hk : am_kc k = 10) (hc : am_cats st ≤ 8) : am_run (d + 1) 116 1 ls (.ref k :: st) σ τ = (am_call d 100 [.ref k] σ τ).bind (fun r => am_run (d + 1) 116 4 ls (r.1.toList ++ st) r.2.1 r.2.2) := rr_invv [] dX10_layWays_1 (by decide +kernel) (by decide) rfl (Nat.le_of_ble_eq_true rfl) hk hc
theorem r116_4 (d : Nat) (ls st : List Value) (σ : am_St) (τ : Int64) : am_run d 116 4 ls st σ τ = am_run d 116 5 ls (.int 0 :: st) σ τ := rr_iconst 0 dX10_layWays_4 (by decide)
theorem r116_5 (d : Nat) (st : List Value) (σ : am_St) (τ : Int64) (x : Int32) (v0 v1 v2 v3 v4 v5 v6 v7 : Value) : am_run d 116 5 [v0, v1, v2, v3, v4, v5, v6, v7] (.int x :: st) σ τ = am_run d 116 6 [am_nl v0, .int x, v2, v3, v4, v5, v6, v7] st σ τ := rr_istore_n _ dX10_layWays_5 (by decide) (by first | rfl | (by_cases h : v0.category = 2 <;> simp [am_set1, am_nl, h]))
theorem r116_6 (d : Nat) (ls st : List Value) (σ : am_St) (τ : Int64) : am_run d 116 6 ls st σ τ = am_run d 116 7 ls (.int 0 :: st) σ τ := rr_iconst 0 dX10_layWays_6 (by decide)
theorem r116_7 (d : Nat) (st : List Value) (σ : am_St) (τ : Int64) (x : Int32) (v0 v1 v2 v3 v4 v5 v6 v7 : Value) : am_run d 116 7 [v0, v1, v2, v3, v4, v5, v6, v7] (.int x :: st) σ τ = am_run d 116 8 [v0, am_nl v1, .int x, v3, v4, v5, v6, v7] st σ τ := rr_istore_n _ dX10_layWays_7 (by decide) (by first | rfl | (by_cases h : v1.category = 2 <;> simp [am_set1, am_nl, h]))
theorem r116_8 (d : Nat) (st : List Value) (σ : am_St) (τ : Int64) (x : Int32) (v0 v1 v3 v4 v5 v6 v7 : Value) : am_run d 116 8 [v0, v1, .int x, v3, v4, v5, v6, v7] st σ τ = am_run d 116 9 [v0, v1, .int x, v3, v4, v5, v6, v7] (.int x :: st) σ τ := rr_iload_n dX10_layWays_8 rfl
theorem r116_9 (d : Nat) (st : List Value) (σ : am_St) (τ : Int64) (x : Nat) (v1 v2 v3 v4 v5 v6 v7 : Value) : am_run d 116 9 [.ref x, v1, v2, v3, v4, v5, v6, v7] st σ τ = am_run d 116 10 [.ref x, v1, v2, v3, v4, v5, v6, v7] (.ref x :: st) σ τ := rr_aload_n dX10_layWays_9 rfl
theorem r116_10 (d : Nat) (ls st : List Value) (σ : am_St) (τ : Int64) (k : Nat) : am_run d 116 10 ls (.ref k :: st) σ τ = am_gf k 10 6 σ τ (fun v => am_run d 116 13 ls (v :: st) σ τ) := rr_getf dX10_layWays_10 (by decide +kernel)
theorem r116_13 (d : Nat) (ls st : List Value) (σ : am_St) (τ : Int64) (x y : Int32) : am_run d 116 13 ls (.int y :: .int x :: st) σ τ = if y ≤ x then am_run d 116 50 ls st σ τ else am_run d 116 16 ls st σ τ := (rr_icmp 50 dX10_layWays_13 (by decide)).trans am_sel
theorem r116_16 (d : Nat) (st : List Value) (σ : am_St) (τ : Int64) (x : Nat) (v1 v2 v3 v4 v5 v6 v7 : Value) : am_run d 116 16 [.ref x, v1, v2, v3, v4, v5, v6, v7] st σ τ = am_run d 116 17 [.ref x, v1, v2, v3, v4, v5, v6, v7] (.ref x :: st) σ τ := rr_aload_n dX10_layWays_16 rfl
theorem r116_17 (d : Nat) (ls st : List Value) (σ : am_St) (τ : Int64) (k : Nat) : am_run d 116 17 ls (.ref k :: st) σ τ = am_gf k 10 24 σ τ (fun v => am_run d 116 20 ls (v :: st) σ τ) := rr_getf dX10_layWays_17 (by decide +kernel)
theorem r116_20 (d : Nat) (st : List Value) (σ : am_St) (τ : Int64) (x : Int32) (v0 v1 v3 v4 v5 v6 v7 : Value) : am_run d 116 20 [v0, v1, .int x, v3, v4, v5, v6, v7] st σ τ = am_run d 116 21 [v0, v1, .int x, v3, v4, v5, v6, v7] (.int x :: st) σ τ := rr_iload_n dX10_layWays_20 rfl
theorem r116_21 (d : Nat) (ls st : List Value) (σ : am_St) (τ : Int64) : am_run d 116 21 ls st σ τ = am_run d 116 22 ls (.int 0 :: st) σ τ := rr_iconst 0 dX10_layWays_21 (by decide)
theorem r116_22 (d : Nat) (ls st : List Value) (σ : am_St) (τ : Int64) (x i : Int32) (k : Nat) : am_run d 116 22 ls (.int x :: .int i :: .ref k :: st) σ τ = am_ai false k i (fun j => am_run d 116 23 ls st (am_up σ k j x) τ) := rr_iast dX10_layWays_22
theorem r116_23 (d : Nat) (st : List Value) (σ : am_St) (τ : Int64) (x : Nat) (v1 v2 v3 v4 v5 v6 v7 : Value) : am_run d 116 23 [.ref x, v1, v2, v3, v4, v5, v6, v7] st σ τ = am_run d 116 24 [.ref x, v1, v2, v3, v4, v5, v6, v7] (.ref x :: st) σ τ := rr_aload_n dX10_layWays_23 rfl
theorem r116_24 (d : Nat) (ls st : List Value) (σ : am_St) (τ : Int64) (k : Nat) : am_run d 116 24 ls (.ref k :: st) σ τ = am_gf k 10 10 σ τ (fun v => am_run d 116 27 ls (v :: st) σ τ) := rr_getf dX10_layWays_24 (by decide +kernel)
theorem r116_27 (d : Nat) (st : List Value) (σ : am_St) (τ : Int64) (x : Int32) (v0 v1 v3 v4 v5 v6 v7 : Value) : am_run d 116 27 [v0, v1, .int x, v3, v4, v5, v6, v7] st σ τ = am_run d 116 28 [v0, v1, .int x, v3, v4, v5, v6, v7] (.int x :: st) σ τ := rr_iload_n dX10_layWays_27 rfl
theorem r116_28 (d : Nat) (ls st : List Value) (σ : am_St) (τ : Int64) (i : Int32) (k : Nat) : am_run d 116 28 ls (.int i :: .ref k :: st) σ τ = am_ai false k i (fun j => am_run d 116 29 ls (.int (σ k j) :: st) σ τ) := rr_iald dX10_layWays_28
theorem r116_29 (d : Nat) (ls st : List Value) (σ : am_St) (τ : Int64) : am_run d 116 29 ls st σ τ = am_run d 116 31 ls (.int (-2) :: st) σ τ := rr_bipush (-2) dX10_layWays_29 (by decide)
theorem r116_31 (d : Nat) (ls st : List Value) (σ : am_St) (τ : Int64) (x y : Int32) : am_run d 116 31 ls (.int y :: .int x :: st) σ τ = if x = y then am_run d 116 34 ls st σ τ else am_run d 116 44 ls st σ τ := (rr_icmp 44 dX10_layWays_31 (by decide)).trans am_seln
theorem r116_34 (d : Nat) (st : List Value) (σ : am_St) (τ : Int64) (x : Nat) (v1 v2 v3 v4 v5 v6 v7 : Value) : am_run d 116 34 [.ref x, v1, v2, v3, v4, v5, v6, v7] st σ τ = am_run d 116 35 [.ref x, v1, v2, v3, v4, v5, v6, v7] (.ref x :: st) σ τ := rr_aload_n dX10_layWays_34 rfl
theorem r116_35 (d : Nat) (ls st : List Value) (σ : am_St) (τ : Int64) (k : Nat) : am_run d 116 35 ls (.ref k :: st) σ τ = am_gf k 10 25 σ τ (fun v => am_run d 116 38 ls (v :: st) σ τ) := rr_getf dX10_layWays_35 (by decide +kernel)
theorem r116_38 (d : Nat) (st : List Value) (σ : am_St) (τ : Int64) (x : Int32) (v0 v2 v3 v4 v5 v6 v7 : Value) : am_run d 116 38 [v0, .int x, v2, v3, v4, v5, v6, v7] st σ τ = am_run d 116 39 [v0, .int x, v2, v3, v4, v5, v6, v7] (.int x :: st) σ τ := rr_iload_n dX10_layWays_38 rfl
theorem r116_39 (d : Nat) (st : List Value) (σ : am_St) (τ : Int64) (x : Int32) (v0 v1 v3 v4 v5 v6 v7 : Value) : am_run d 116 39 [v0, v1, .int x, v3, v4, v5, v6, v7] st σ τ = am_run d 116 40 [v0, v1, .int x, v3, v4, v5, v6, v7] (.int x :: st) σ τ := rr_iload_n dX10_layWays_39 rfl
theorem r116_40 (d : Nat) (ls st : List Value) (σ : am_St) (τ : Int64) (x i : Int32) (k : Nat) : am_run d 116 40 ls (.int x :: .int i :: .ref k :: st) σ τ = am_ai false k i (fun j => am_run d 116 41 ls st (am_up σ k j x) τ) := rr_iast dX10_layWays_40
theorem r116_41 (d : Nat) (st : List Value) (σ : am_St) (τ : Int64) (x : Int32) (v0 v2 v3 v4 v5 v6 v7 : Value) : am_run d 116 41 [v0, .int x, v2, v3, v4, v5, v6, v7] st σ τ = am_run d 116 44 [am_nl v0, .int (x + 1), v2, v3, v4, v5, v6, v7] st σ τ := rr_iinc 1 _ dX10_layWays_41 rfl (by decide) (by decide) (by first | rfl | (by_cases h : v0.category = 2 <;> simp [am_set1, am_nl, h]))
theorem r116_44 (d : Nat) (st : List Value) (σ : am_St) (τ : Int64) (x : Int32) (v0 v1 v3 v4 v5 v6 v7 : Value) : am_run d 116 44 [v0, v1, .int x, v3, v4, v5, v6, v7] st σ τ = am_run d 116 47 [v0, am_nl v1, .int (x + 1), v3, v4, v5, v6, v7] st σ τ := rr_iinc 1 _ dX10_layWays_44 rfl (by decide) (by decide) (by first | rfl | (by_cases h : v1.category = 2 <;> simp [am_set1, am_nl, h]))
theorem r116_47 (d : Nat) (ls st : List Value) (σ : am_St) (τ : Int64) : am_run d 116 47 ls st σ τ = am_run d 116 8 ls st σ τ := rr_goto 8 dX10_layWays_47 (by decide)
theorem r116_50 (d : Nat) (ls st : List Value) (σ : am_St) (τ : Int64) : am_run d 116 50 ls st σ τ = am_run d 116 51 ls (.int 0 :: st) σ τ := rr_iconst 0 dX10_layWays_50 (by decide)
theorem r116_51 (d : Nat) (st : List Value) (σ : am_St) (τ : Int64) (x : Int32) (v0 v1 v2 v3 v4 v5 v6 v7 : Value) : am_run d 116 51 [v0, v1, v2, v3, v4, v5, v6, v7] (.int x :: st) σ τ = am_run d 116 52 [v0, am_nl v1, .int x, v3, v4, v5, v6, v7] st σ τ := rr_istore_n _ dX10_layWays_51 (by decide) (by first | rfl | (by_cases h : v1.category = 2 <;> simp [am_set1, am_nl, h]))
theorem r116_52 (d : Nat) (st : List Value) (σ : am_St) (τ : Int64) (x : Int32) (v0 v2 v3 v4 v5 v6 v7 : Value) : am_run d 116 52 [v0, .int x, v2, v3, v4, v5, v6, v7] st σ τ = am_run d 116 53 [v0, .int x, v2, v3, v4, v5, v6, v7] (.int x :: st) σ τ := rr_iload_n dX10_layWays_52 rfl
theorem r116_53 (d : Nat) (ls st : List Value) (σ : am_St) (τ : Int64) (x : Int32) : am_run d 116 53 ls (.int x :: st) σ τ = if x = 0 then am_run d 116 56 ls st σ τ else am_run d 116 60 ls st σ τ := (rr_if 60 dX10_layWays_53 (by decide)).trans am_seln
theorem r116_56 (d : Nat) (ls st : List Value) (σ : am_St) (τ : Int64) : am_run d 116 56 ls st σ τ = am_run d 116 57 ls (.int 1 :: st) σ τ := rr_iconst 1 dX10_layWays_56 (by decide)
theorem r116_57 (d : Nat) (ls st : List Value) (σ : am_St) (τ : Int64) : am_run d 116 57 ls st σ τ = am_run d 116 84 ls st σ τ := rr_goto 84 dX10_layWays_57 (by decide)
theorem r116_60 (d : Nat) (st : List Value) (σ : am_St) (τ : Int64) (x : Int32) (v0 v2 v3 v4 v5 v6 v7 : Value) : am_run d 116 60 [v0, .int x, v2, v3, v4, v5, v6, v7] st σ τ = am_run d 116 61 [v0, .int x, v2, v3, v4, v5, v6, v7] (.int x :: st) σ τ := rr_iload_n dX10_layWays_60 rfl
theorem r116_61 (d : Nat) (ls st : List Value) (σ : am_St) (τ : Int64) : am_run d 116 61 ls st σ τ = am_run d 116 62 ls (.int 1 :: st) σ τ := rr_iconst 1 dX10_layWays_61 (by decide)
theorem r116_62 (d : Nat) (ls st : List Value) (σ : am_St) (τ : Int64) (x y : Int32) : am_run d 116 62 ls (.int y :: .int x :: st) σ τ = if x = y then am_run d 116 65 ls st σ τ else am_run d 116 70 ls st σ τ := (rr_icmp 70 dX10_layWays_62 (by decide)).trans am_seln
theorem r116_65 (d : Nat) (ls st : List Value) (σ : am_St) (τ : Int64) : am_run d 116 65 ls st σ τ = am_run d 116 67 ls (.int 12 :: st) σ τ := rr_bipush 12 dX10_layWays_65 (by decide)
theorem r116_67 (d : Nat) (ls st : List Value) (σ : am_St) (τ : Int64) : am_run d 116 67 ls st σ τ = am_run d 116 84 ls st σ τ := rr_goto 84 dX10_layWays_67 (by decide)
theorem r116_70 (d : Nat) (st : List Value) (σ : am_St) (τ : Int64) (x : Int32) (v0 v2 v3 v4 v5 v6 v7 : Value) : am_run d 116 70 [v0, .int x, v2, v3, v4, v5, v6, v7] st σ τ = am_run d 116 71 [v0, .int x, v2, v3, v4, v5, v6, v7] (.int x :: st) σ τ := rr_iload_n dX10_layWays_70 rfl
theorem r116_71 (d : Nat) (ls st : List Value) (σ : am_St) (τ : Int64) : am_run d 116 71 ls st σ τ = am_run d 116 72 ls (.int 2 :: st) σ τ := rr_iconst 2 dX10_layWays_71 (by decide)
theorem r116_72 (d : Nat) (ls st : List Value) (σ : am_St) (τ : Int64) (x y : Int32) : am_run d 116 72 ls (.int y :: .int x :: st) σ τ = if x = y then am_run d 116 75 ls st σ τ else am_run d 116 81 ls st σ τ := (rr_icmp 81 dX10_layWays_72 (by decide)).trans am_seln
theorem r116_75 (d : Nat) (ls st : List Value) (σ : am_St) (τ : Int64) : am_run d 116 75 ls st σ τ = am_run d 116 78 ls (.int 144 :: st) σ τ := rr_sipush 144 dX10_layWays_75 (by decide)
theorem r116_78 (d : Nat) (ls st : List Value) (σ : am_St) (τ : Int64) : am_run d 116 78 ls st σ τ = am_run d 116 84 ls st σ τ := rr_goto 84 dX10_layWays_78 (by decide)
theorem r116_81 (d : Nat) (ls st : List Value) (σ : am_St) (τ : Int64) : am_run d 116 81 ls st σ τ = am_run d 116 84 ls (.int 1728 :: st) σ τ := rr_sipush 1728 dX10_layWays_81 (by decide)
theorem r116_84 (d : Nat) (st : List Value) (σ : am_St) (τ : Int64) (x : Int32) (v0 v1 v2 v3 v4 v5 v6 v7 : Value) : am_run d 116 84 [v0, v1, v2, v3, v4, v5, v6, v7] (.int x :: st) σ τ = am_run d 116 85 [v0, v1, am_nl v2, .int x, v4, v5, v6, v7] st σ τ := rr_istore_n _ dX10_layWays_84 (by decide) (by first | rfl | (by_cases h : v2.category = 2 <;> simp [am_set1, am_nl, h]))
theorem r116_85 (d : Nat) (ls st : List Value) (σ : am_St) (τ : Int64) : am_run d 116 85 ls st σ τ = am_run d 116 86 ls (.int 0 :: st) σ τ := rr_iconst 0 dX10_layWays_85 (by decide)
theorem r116_86 (d : Nat) (st : List Value) (σ : am_St) (τ : Int64) (x : Int32) (v0 v1 v2 v3 v4 v5 v6 v7 : Value) : am_run d 116 86 [v0, v1, v2, v3, v4, v5, v6, v7] (.int x :: st) σ τ = am_run d 116 88 [v0, v1, v2, am_nl v3, .int x, v5, v6, v7] st σ τ := rr_istore _ dX10_layWays_86 (by decide) (by first | rfl | (by_cases h : v3.category = 2 <;> simp [am_set1, am_nl, h]))
theorem r116_88 (d : Nat) (st : List Value) (σ : am_St) (τ : Int64) (x : Int32) (v0 v1 v2 v3 v5 v6 v7 : Value) : am_run d 116 88 [v0, v1, v2, v3, .int x, v5, v6, v7] st σ τ = am_run d 116 90 [v0, v1, v2, v3, .int x, v5, v6, v7] (.int x :: st) σ τ := rr_iload dX10_layWays_88 rfl
theorem r116_90 (d : Nat) (st : List Value) (σ : am_St) (τ : Int64) (x : Int32) (v0 v1 v2 v4 v5 v6 v7 : Value) : am_run d 116 90 [v0, v1, v2, .int x, v4, v5, v6, v7] st σ τ = am_run d 116 91 [v0, v1, v2, .int x, v4, v5, v6, v7] (.int x :: st) σ τ := rr_iload_n dX10_layWays_90 rfl
theorem r116_91 (d : Nat) (ls st : List Value) (σ : am_St) (τ : Int64) (x y : Int32) : am_run d 116 91 ls (.int y :: .int x :: st) σ τ = if y ≤ x then am_run d 116 270 ls st σ τ else am_run d 116 94 ls st σ τ := (rr_icmp 270 dX10_layWays_91 (by decide)).trans am_sel
theorem r116_94 (d : Nat) (st : List Value) (σ : am_St) (τ : Int64) (x : Int32) (v0 v1 v2 v3 v5 v6 v7 : Value) : am_run d 116 94 [v0, v1, v2, v3, .int x, v5, v6, v7] st σ τ = am_run d 116 96 [v0, v1, v2, v3, .int x, v5, v6, v7] (.int x :: st) σ τ := rr_iload dX10_layWays_94 rfl
theorem r116_96 (d : Nat) (st : List Value) (σ : am_St) (τ : Int64) (x : Int32) (v0 v1 v2 v3 v4 v5 v6 v7 : Value) : am_run d 116 96 [v0, v1, v2, v3, v4, v5, v6, v7] (.int x :: st) σ τ = am_run d 116 98 [v0, v1, v2, v3, am_nl v4, .int x, v6, v7] st σ τ := rr_istore _ dX10_layWays_96 (by decide) (by first | rfl | (by_cases h : v4.category = 2 <;> simp [am_set1, am_nl, h]))
theorem r116_98 (d : Nat) (ls st : List Value) (σ : am_St) (τ : Int64) : am_run d 116 98 ls st σ τ = am_run d 116 99 ls (.int 1 :: st) σ τ := rr_iconst 1 dX10_layWays_98 (by decide)
theorem r116_99 (d : Nat) (st : List Value) (σ : am_St) (τ : Int64) (x : Int32) (v0 v1 v2 v3 v4 v5 v6 v7 : Value) : am_run d 116 99 [v0, v1, v2, v3, v4, v5, v6, v7] (.int x :: st) σ τ = am_run d 116 101 [v0, v1, v2, v3, v4, am_nl v5, .int x, v7] st σ τ := rr_istore _ dX10_layWays_99 (by decide) (by first | rfl | (by_cases h : v5.category = 2 <;> simp [am_set1, am_nl, h]))
theorem r116_101 (d : Nat) (ls st : List Value) (σ : am_St) (τ : Int64) : am_run d 116 101 ls st σ τ = am_run d 116 102 ls (.int 0 :: st) σ τ := rr_iconst 0 dX10_layWays_101 (by decide)
theorem r116_102 (d : Nat) (st : List Value) (σ : am_St) (τ : Int64) (x : Int32) (v0 v1 v2 v3 v4 v5 v6 v7 : Value) : am_run d 116 102 [v0, v1, v2, v3, v4, v5, v6, v7] (.int x :: st) σ τ = am_run d 116 104 [v0, v1, v2, v3, v4, v5, am_nl v6, .int x] st σ τ := rr_istore _ dX10_layWays_102 (by decide) (by first | rfl | (by_cases h : v6.category = 2 <;> simp [am_set1, am_nl, h]))
theorem r116_104 (d : Nat) (st : List Value) (σ : am_St) (τ : Int64) (x : Int32) (v0 v1 v2 v3 v4 v5 v6 : Value) : am_run d 116 104 [v0, v1, v2, v3, v4, v5, v6, .int x] st σ τ = am_run d 116 106 [v0, v1, v2, v3, v4, v5, v6, .int x] (.int x :: st) σ τ := rr_iload dX10_layWays_104 rfl
theorem r116_106 (d : Nat) (st : List Value) (σ : am_St) (τ : Int64) (x : Int32) (v0 v2 v3 v4 v5 v6 v7 : Value) : am_run d 116 106 [v0, .int x, v2, v3, v4, v5, v6, v7] st σ τ = am_run d 116 107 [v0, .int x, v2, v3, v4, v5, v6, v7] (.int x :: st) σ τ := rr_iload_n dX10_layWays_106 rfl
theorem r116_107 (d : Nat) (ls st : List Value) (σ : am_St) (τ : Int64) (x y : Int32) : am_run d 116 107 ls (.int y :: .int x :: st) σ τ = if y ≤ x then am_run d 116 171 ls st σ τ else am_run d 116 110 ls st σ τ := (rr_icmp 171 dX10_layWays_107 (by decide)).trans am_sel
theorem r116_110 (d : Nat) (st : List Value) (σ : am_St) (τ : Int64) (x : Nat) (v1 v2 v3 v4 v5 v6 v7 : Value) : am_run d 116 110 [.ref x, v1, v2, v3, v4, v5, v6, v7] st σ τ = am_run d 116 111 [.ref x, v1, v2, v3, v4, v5, v6, v7] (.ref x :: st) σ τ := rr_aload_n dX10_layWays_110 rfl
theorem r116_111 (d : Nat) (ls st : List Value) (σ : am_St) (τ : Int64) (k : Nat) : am_run d 116 111 ls (.ref k :: st) σ τ = am_gf k 10 17 σ τ (fun v => am_run d 116 114 ls (v :: st) σ τ) := rr_getf dX10_layWays_111 (by decide +kernel)
theorem r116_114 (d : Nat) (st : List Value) (σ : am_St) (τ : Int64) (x : Nat) (v1 v2 v3 v4 v5 v6 v7 : Value) : am_run d 116 114 [.ref x, v1, v2, v3, v4, v5, v6, v7] st σ τ = am_run d 116 115 [.ref x, v1, v2, v3, v4, v5, v6, v7] (.ref x :: st) σ τ := rr_aload_n dX10_layWays_114 rfl
theorem r116_115 (d : Nat) (ls st : List Value) (σ : am_St) (τ : Int64) (k : Nat) : am_run d 116 115 ls (.ref k :: st) σ τ = am_gf k 10 25 σ τ (fun v => am_run d 116 118 ls (v :: st) σ τ) := rr_getf dX10_layWays_115 (by decide +kernel)
theorem r116_118 (d : Nat) (st : List Value) (σ : am_St) (τ : Int64) (x : Int32) (v0 v1 v2 v3 v4 v5 v6 : Value) : am_run d 116 118 [v0, v1, v2, v3, v4, v5, v6, .int x] st σ τ = am_run d 116 120 [v0, v1, v2, v3, v4, v5, v6, .int x] (.int x :: st) σ τ := rr_iload dX10_layWays_118 rfl
theorem r116_120 (d : Nat) (ls st : List Value) (σ : am_St) (τ : Int64) (i : Int32) (k : Nat) : am_run d 116 120 ls (.int i :: .ref k :: st) σ τ = am_ai false k i (fun j => am_run d 116 121 ls (.int (σ k j) :: st) σ τ) := rr_iald dX10_layWays_120
theorem r116_121 (d : Nat) (st : List Value) (σ : am_St) (τ : Int64) (x : Int32) (v0 v1 v2 v3 v4 v6 v7 : Value) : am_run d 116 121 [v0, v1, v2, v3, v4, .int x, v6, v7] st σ τ = am_run d 116 123 [v0, v1, v2, v3, v4, .int x, v6, v7] (.int x :: st) σ τ := rr_iload dX10_layWays_121 rfl
theorem r116_123 (d : Nat) (ls st : List Value) (σ : am_St) (τ : Int64) : am_run d 116 123 ls st σ τ = am_run d 116 125 ls (.int 12 :: st) σ τ := rr_bipush 12 dX10_layWays_123 (by decide)
theorem r116_125 (d : Nat) (ls st : List Value) (σ : am_St) (τ : Int64) (x y : Int32) : am_run d 116 125 ls (.int y :: .int x :: st) σ τ = if y = 0 then none else am_run d 116 126 ls (.int (x - x / y * y) :: st) σ τ := rr_irem dX10_layWays_125
theorem r116_126 (d : Nat) (ls st : List Value) (σ : am_St) (τ : Int64) (x i : Int32) (k : Nat) : am_run d 116 126 ls (.int x :: .int i :: .ref k :: st) σ τ = am_ai false k i (fun j => am_run d 116 127 ls st (am_up σ k j x) τ) := rr_iast dX10_layWays_126
theorem r116_127 (d : Nat) (st : List Value) (σ : am_St) (τ : Int64) (x : Int32) (v0 v1 v2 v3 v4 v5 v7 : Value) : am_run d 116 127 [v0, v1, v2, v3, v4, v5, .int x, v7] st σ τ = am_run d 116 129 [v0, v1, v2, v3, v4, v5, .int x, v7] (.int x :: st) σ τ := rr_iload dX10_layWays_127 rfl
theorem r116_129 (d : Nat) (ls st : List Value) (σ : am_St) (τ : Int64) (x : Int32) : am_run d 116 129 ls (.int x :: st) σ τ = if x = 0 then am_run d 116 155 ls st σ τ else am_run d 116 132 ls st σ τ := (rr_if 155 dX10_layWays_129 (by decide)).trans am_sel
theorem r116_132 (d : Nat) (st : List Value) (σ : am_St) (τ : Int64) (x : Nat) (v1 v2 v3 v4 v5 v6 v7 : Value) : am_run d 116 132 [.ref x, v1, v2, v3, v4, v5, v6, v7] st σ τ = am_run d 116 133 [.ref x, v1, v2, v3, v4, v5, v6, v7] (.ref x :: st) σ τ := rr_aload_n dX10_layWays_132 rfl
theorem r116_133 (d : Nat) (st : List Value) (σ : am_St) (τ : Int64) (x : Int32) (v0 v1 v2 v3 v4 v6 v7 : Value) : am_run d 116 133 [v0, v1, v2, v3, v4, .int x, v6, v7] st σ τ = am_run d 116 135 [v0, v1, v2, v3, v4, .int x, v6, v7] (.int x :: st) σ τ := rr_iload dX10_layWays_133 rfl
theorem r116_135 (d : Nat) (ls st : List Value) (σ : am_St) (τ : Int64) : am_run d 116 135 ls st σ τ = am_run d 116 137 ls (.int 12 :: st) σ τ := rr_bipush 12 dX10_layWays_135 (by decide)
theorem r116_137 (d : Nat) (ls st : List Value) (σ : am_St) (τ : Int64) (x y : Int32) : am_run d 116 137 ls (.int y :: .int x :: st) σ τ = if y = 0 then none else am_run d 116 138 ls (.int (x - x / y * y) :: st) σ τ := rr_irem dX10_layWays_137
theorem r116_138 (d : Nat) (st : List Value) (σ : am_St) (τ : Int64) (x : Nat) (v1 v2 v3 v4 v5 v6 v7 : Value) : am_run d 116 138 [.ref x, v1, v2, v3, v4, v5, v6, v7] st σ τ = am_run d 116 139 [.ref x, v1, v2, v3, v4, v5, v6, v7] (.ref x :: st) σ τ := rr_aload_n dX10_layWays_138 rfl
theorem r116_139 (d : Nat) (ls st : List Value) (σ : am_St) (τ : Int64) (k : Nat) : am_run d 116 139 ls (.ref k :: st) σ τ = am_gf k 10 25 σ τ (fun v => am_run d 116 142 ls (v :: st) σ τ) := rr_getf dX10_layWays_139 (by decide +kernel)
theorem r116_142 (d : Nat) (st : List Value) (σ : am_St) (τ : Int64) (x : Int32) (v0 v1 v2 v3 v4 v5 v6 : Value) : am_run d 116 142 [v0, v1, v2, v3, v4, v5, v6, .int x] st σ τ = am_run d 116 144 [v0, v1, v2, v3, v4, v5, v6, .int x] (.int x :: st) σ τ := rr_iload dX10_layWays_142 rfl
theorem r116_144 (d : Nat) (ls st : List Value) (σ : am_St) (τ : Int64) (i : Int32) (k : Nat) : am_run d 116 144 ls (.int i :: .ref k :: st) σ τ = am_ai false k i (fun j => am_run d 116 145 ls (.int (σ k j) :: st) σ τ) := rr_iald dX10_layWays_144
theorem r116_145 (d : Nat) (ls st : List Value) (σ : am_St) (τ : Int64) (k : Nat) (a0 : Int32) (a1 : Int32) (hk : am_kc k = 10) (hc : am_cats st ≤ 8) : am_run (d + 1) 116 145 ls (.int a1 :: .int a0 :: .ref k :: st) σ τ = (am_call d 115 [.ref k, .int a0, .int a1] σ τ).bind (fun r => am_run (d + 1) 116 148 ls (r.1.toList ++ st) r.2.1 r.2.2) := rr_invv [.int a0, .int a1] dX10_layWays_145 (by decide +kernel) (by decide) rfl (Nat.le_of_ble_eq_true rfl) hk hc
theorem r116_148 (d : Nat) (ls st : List Value) (σ : am_St) (τ : Int64) (x : Int32) : am_run d 116 148 ls (.int x :: st) σ τ = if x = 0 then am_run d 116 155 ls st σ τ else am_run d 116 151 ls st σ τ := (rr_if 155 dX10_layWays_148 (by decide)).trans am_sel
theorem r116_151 (d : Nat) (ls st : List Value) (σ : am_St) (τ : Int64) : am_run d 116 151 ls st σ τ = am_run d 116 152 ls (.int 1 :: st) σ τ := rr_iconst 1 dX10_layWays_151 (by decide)
theorem r116_152 (d : Nat) (ls st : List Value) (σ : am_St) (τ : Int64) : am_run d 116 152 ls st σ τ = am_run d 116 156 ls st σ τ := rr_goto 156 dX10_layWays_152 (by decide)
theorem r116_155 (d : Nat) (ls st : List Value) (σ : am_St) (τ : Int64) : am_run d 116 155 ls st σ τ = am_run d 116 156 ls (.int 0 :: st) σ τ := rr_iconst 0 dX10_layWays_155 (by decide)
theorem r116_156 (d : Nat) (st : List Value) (σ : am_St) (τ : Int64) (x : Int32) (v0 v1 v2 v3 v4 v5 v6 v7 : Value) : am_run d 116 156 [v0, v1, v2, v3, v4, v5, v6, v7] (.int x :: st) σ τ = am_run d 116 158 [v0, v1, v2, v3, v4, am_nl v5, .int x, v7] st σ τ := rr_istore _ dX10_layWays_156 (by decide) (by first | rfl | (by_cases h : v5.category = 2 <;> simp [am_set1, am_nl, h]))
theorem r116_158 (d : Nat) (st : List Value) (σ : am_St) (τ : Int64) (x : Int32) (v0 v1 v2 v3 v4 v6 v7 : Value) : am_run d 116 158 [v0, v1, v2, v3, v4, .int x, v6, v7] st σ τ = am_run d 116 160 [v0, v1, v2, v3, v4, .int x, v6, v7] (.int x :: st) σ τ := rr_iload dX10_layWays_158 rfl
theorem r116_160 (d : Nat) (ls st : List Value) (σ : am_St) (τ : Int64) : am_run d 116 160 ls st σ τ = am_run d 116 162 ls (.int 12 :: st) σ τ := rr_bipush 12 dX10_layWays_160 (by decide)
theorem r116_162 (d : Nat) (ls st : List Value) (σ : am_St) (τ : Int64) (x y : Int32) : am_run d 116 162 ls (.int y :: .int x :: st) σ τ = if y = 0 then none else am_run d 116 163 ls (.int (x / y) :: st) σ τ := rr_idiv dX10_layWays_162
theorem r116_163 (d : Nat) (st : List Value) (σ : am_St) (τ : Int64) (x : Int32) (v0 v1 v2 v3 v4 v5 v6 v7 : Value) : am_run d 116 163 [v0, v1, v2, v3, v4, v5, v6, v7] (.int x :: st) σ τ = am_run d 116 165 [v0, v1, v2, v3, am_nl v4, .int x, v6, v7] st σ τ := rr_istore _ dX10_layWays_163 (by decide) (by first | rfl | (by_cases h : v4.category = 2 <;> simp [am_set1, am_nl, h]))
theorem r116_165 (d : Nat) (st : List Value) (σ : am_St) (τ : Int64) (x : Int32) (v0 v1 v2 v3 v4 v5 v6 : Value) : am_run d 116 165 [v0, v1, v2, v3, v4, v5, v6, .int x] st σ τ = am_run d 116 168 [v0, v1, v2, v3, v4, v5, am_nl v6, .int (x + 1)] st σ τ := rr_iinc 1 _ dX10_layWays_165 rfl (by decide) (by decide) (by first | rfl | (by_cases h : v6.category = 2 <;> simp [am_set1, am_nl, h]))
theorem r116_168 (d : Nat) (ls st : List Value) (σ : am_St) (τ : Int64) : am_run d 116 168 ls st σ τ = am_run d 116 104 ls st σ τ := rr_goto 104 dX10_layWays_168 (by decide)
theorem r116_171 (d : Nat) (st : List Value) (σ : am_St) (τ : Int64) (x : Int32) (v0 v1 v2 v3 v4 v5 v7 : Value) : am_run d 116 171 [v0, v1, v2, v3, v4, v5, .int x, v7] st σ τ = am_run d 116 173 [v0, v1, v2, v3, v4, v5, .int x, v7] (.int x :: st) σ τ := rr_iload dX10_layWays_171 rfl
theorem r116_173 (d : Nat) (ls st : List Value) (σ : am_St) (τ : Int64) (x : Int32) : am_run d 116 173 ls (.int x :: st) σ τ = if x = 0 then am_run d 116 194 ls st σ τ else am_run d 116 176 ls st σ τ := (rr_if 194 dX10_layWays_173 (by decide)).trans am_sel
theorem r116_176 (d : Nat) (st : List Value) (σ : am_St) (τ : Int64) (x : Nat) (v1 v2 v3 v4 v5 v6 v7 : Value) : am_run d 116 176 [.ref x, v1, v2, v3, v4, v5, v6, v7] st σ τ = am_run d 116 177 [.ref x, v1, v2, v3, v4, v5, v6, v7] (.ref x :: st) σ τ := rr_aload_n dX10_layWays_176 rfl
theorem r116_177 (d : Nat) (ls st : List Value) (σ : am_St) (τ : Int64) (k : Nat)  (hk : am_kc k = 10) (hc : am_cats st ≤ 8) : am_run (d + 1) 116 177 ls (.ref k :: st) σ τ = (am_call d 99 [.ref k] σ τ).bind (fun r => am_run (d + 1) 116 180 ls (r.1.toList ++ st) r.2.1 r.2.2) := rr_invv [] dX10_layWays_177 (by decide +kernel) (by decide) rfl (Nat.le_of_ble_eq_true rfl) hk hc
theorem r116_180 (d : Nat) (st : List Value) (σ : am_St) (τ : Int64) (x : Nat) (v1 v2 v3 v4 v5 v6 v7 : Value) : am_run d 116 180 [.ref x, v1, v2, v3, v4, v5, v6, v7] st σ τ = am_run d 116 181 [.ref x, v1, v2, v3, v4, v5, v6, v7] (.ref x :: st) σ τ := rr_aload_n dX10_layWays_180 rfl
theorem r116_181 (d : Nat) (ls st : List Value) (σ : am_St) (τ : Int64) (k : Nat)  (hk : am_kc k = 10) (hc : am_cats st ≤ 8) : am_run (d + 1) 116 181 ls (.ref k :: st) σ τ = (am_call d 102 [.ref k] σ τ).bind (fun r => am_run (d + 1) 116 184 ls (r.1.toList ++ st) r.2.1 r.2.2) := rr_invv [] dX10_layWays_181 (by decide +kernel) (by decide) rfl (Nat.le_of_ble_eq_true rfl) hk hc
theorem r116_184 (d : Nat) (ls st : List Value) (σ : am_St) (τ : Int64) (x : Int32) : am_run d 116 184 ls (.int x :: st) σ τ = if x = 0 then am_run d 116 187 ls st σ τ else am_run d 116 191 ls st σ τ := (rr_if 191 dX10_layWays_184 (by decide)).trans am_seln
theorem r116_187 (d : Nat) (ls st : List Value) (σ : am_St) (τ : Int64) : am_run d 116 187 ls st σ τ = am_run d 116 188 ls (.int 1 :: st) σ τ := rr_iconst 1 dX10_layWays_187 (by decide)
theorem r116_188 (d : Nat) (ls st : List Value) (σ : am_St) (τ : Int64) : am_run d 116 188 ls st σ τ = am_run d 116 192 ls st σ τ := rr_goto 192 dX10_layWays_188 (by decide)
theorem r116_191 (d : Nat) (ls st : List Value) (σ : am_St) (τ : Int64) : am_run d 116 191 ls st σ τ = am_run d 116 192 ls (.int 0 :: st) σ τ := rr_iconst 0 dX10_layWays_191 (by decide)
theorem r116_192 (d : Nat) (st : List Value) (σ : am_St) (τ : Int64) (x : Int32) (v0 v1 v2 v3 v4 v5 v6 v7 : Value) : am_run d 116 192 [v0, v1, v2, v3, v4, v5, v6, v7] (.int x :: st) σ τ = am_run d 116 194 [v0, v1, v2, v3, v4, am_nl v5, .int x, v7] st σ τ := rr_istore _ dX10_layWays_192 (by decide) (by first | rfl | (by_cases h : v5.category = 2 <;> simp [am_set1, am_nl, h]))
theorem r116_194 (d : Nat) (st : List Value) (σ : am_St) (τ : Int64) (x : Int32) (v0 v1 v3 v4 v5 v6 v7 : Value) : am_run d 116 194 [v0, v1, .int x, v3, v4, v5, v6, v7] st σ τ = am_run d 116 195 [v0, v1, .int x, v3, v4, v5, v6, v7] (.int x :: st) σ τ := rr_iload_n dX10_layWays_194 rfl
theorem r116_195 (d : Nat) (st : List Value) (σ : am_St) (τ : Int64) (x : Int32) (v0 v1 v2 v3 v4 v5 v7 : Value) : am_run d 116 195 [v0, v1, v2, v3, v4, v5, .int x, v7] st σ τ = am_run d 116 197 [v0, v1, v2, v3, v4, v5, .int x, v7] (.int x :: st) σ τ := rr_iload dX10_layWays_195 rfl
theorem r116_197 (d : Nat) (ls st : List Value) (σ : am_St) (τ : Int64) (x : Int32) : am_run d 116 197 ls (.int x :: st) σ τ = if x = 0 then am_run d 116 204 ls st σ τ else am_run d 116 200 ls st σ τ := (rr_if 204 dX10_layWays_197 (by decide)).trans am_sel
theorem r116_200 (d : Nat) (ls st : List Value) (σ : am_St) (τ : Int64) : am_run d 116 200 ls st σ τ = am_run d 116 201 ls (.int 1 :: st) σ τ := rr_iconst 1 dX10_layWays_200 (by decide)
theorem r116_201 (d : Nat) (ls st : List Value) (σ : am_St) (τ : Int64) : am_run d 116 201 ls st σ τ = am_run d 116 205 ls st σ τ := rr_goto 205 dX10_layWays_201 (by decide)
theorem r116_204 (d : Nat) (ls st : List Value) (σ : am_St) (τ : Int64) : am_run d 116 204 ls st σ τ = am_run d 116 205 ls (.int 0 :: st) σ τ := rr_iconst 0 dX10_layWays_204 (by decide)
theorem r116_205 (d : Nat) (ls st : List Value) (σ : am_St) (τ : Int64) (x y : Int32) : am_run d 116 205 ls (.int y :: .int x :: st) σ τ = am_run d 116 206 ls (.int (x + y) :: st) σ τ := rr_iadd dX10_layWays_205
theorem r116_206 (d : Nat) (st : List Value) (σ : am_St) (τ : Int64) (x : Int32) (v0 v1 v2 v3 v4 v5 v6 v7 : Value) : am_run d 116 206 [v0, v1, v2, v3, v4, v5, v6, v7] (.int x :: st) σ τ = am_run d 116 207 [v0, am_nl v1, .int x, v3, v4, v5, v6, v7] st σ τ := rr_istore_n _ dX10_layWays_206 (by decide) (by first | rfl | (by_cases h : v1.category = 2 <;> simp [am_set1, am_nl, h]))
theorem r116_207 (d : Nat) (ls st : List Value) (σ : am_St) (τ : Int64) : am_run d 116 207 ls st σ τ = am_run d 116 208 ls (.int 0 :: st) σ τ := rr_iconst 0 dX10_layWays_207 (by decide)
theorem r116_208 (d : Nat) (st : List Value) (σ : am_St) (τ : Int64) (x : Int32) (v0 v1 v2 v3 v4 v5 v6 v7 : Value) : am_run d 116 208 [v0, v1, v2, v3, v4, v5, v6, v7] (.int x :: st) σ τ = am_run d 116 210 [v0, v1, v2, v3, v4, v5, am_nl v6, .int x] st σ τ := rr_istore _ dX10_layWays_208 (by decide) (by first | rfl | (by_cases h : v6.category = 2 <;> simp [am_set1, am_nl, h]))
theorem r116_210 (d : Nat) (st : List Value) (σ : am_St) (τ : Int64) (x : Int32) (v0 v1 v2 v3 v4 v5 v6 : Value) : am_run d 116 210 [v0, v1, v2, v3, v4, v5, v6, .int x] st σ τ = am_run d 116 212 [v0, v1, v2, v3, v4, v5, v6, .int x] (.int x :: st) σ τ := rr_iload dX10_layWays_210 rfl
theorem r116_212 (d : Nat) (st : List Value) (σ : am_St) (τ : Int64) (x : Nat) (v1 v2 v3 v4 v5 v6 v7 : Value) : am_run d 116 212 [.ref x, v1, v2, v3, v4, v5, v6, v7] st σ τ = am_run d 116 213 [.ref x, v1, v2, v3, v4, v5, v6, v7] (.ref x :: st) σ τ := rr_aload_n dX10_layWays_212 rfl
theorem r116_213 (d : Nat) (ls st : List Value) (σ : am_St) (τ : Int64) (k : Nat) : am_run d 116 213 ls (.ref k :: st) σ τ = am_gf k 10 6 σ τ (fun v => am_run d 116 216 ls (v :: st) σ τ) := rr_getf dX10_layWays_213 (by decide +kernel)
theorem r116_216 (d : Nat) (ls st : List Value) (σ : am_St) (τ : Int64) (x y : Int32) : am_run d 116 216 ls (.int y :: .int x :: st) σ τ = if y ≤ x then am_run d 116 264 ls st σ τ else am_run d 116 219 ls st σ τ := (rr_icmp 264 dX10_layWays_216 (by decide)).trans am_sel
theorem r116_219 (d : Nat) (st : List Value) (σ : am_St) (τ : Int64) (x : Int32) (v0 v1 v2 v3 v4 v5 v7 : Value) : am_run d 116 219 [v0, v1, v2, v3, v4, v5, .int x, v7] st σ τ = am_run d 116 221 [v0, v1, v2, v3, v4, v5, .int x, v7] (.int x :: st) σ τ := rr_iload dX10_layWays_219 rfl
theorem r116_221 (d : Nat) (ls st : List Value) (σ : am_St) (τ : Int64) (x : Int32) : am_run d 116 221 ls (.int x :: st) σ τ = if x = 0 then am_run d 116 264 ls st σ τ else am_run d 116 224 ls st σ τ := (rr_if 264 dX10_layWays_221 (by decide)).trans am_sel
theorem r116_224 (d : Nat) (st : List Value) (σ : am_St) (τ : Int64) (x : Nat) (v1 v2 v3 v4 v5 v6 v7 : Value) : am_run d 116 224 [.ref x, v1, v2, v3, v4, v5, v6, v7] st σ τ = am_run d 116 225 [.ref x, v1, v2, v3, v4, v5, v6, v7] (.ref x :: st) σ τ := rr_aload_n dX10_layWays_224 rfl
theorem r116_225 (d : Nat) (ls st : List Value) (σ : am_St) (τ : Int64) (k : Nat) : am_run d 116 225 ls (.ref k :: st) σ τ = am_gf k 10 24 σ τ (fun v => am_run d 116 228 ls (v :: st) σ τ) := rr_getf dX10_layWays_225 (by decide +kernel)
theorem r116_228 (d : Nat) (st : List Value) (σ : am_St) (τ : Int64) (x : Int32) (v0 v1 v2 v3 v4 v5 v6 : Value) : am_run d 116 228 [v0, v1, v2, v3, v4, v5, v6, .int x] st σ τ = am_run d 116 230 [v0, v1, v2, v3, v4, v5, v6, .int x] (.int x :: st) σ τ := rr_iload dX10_layWays_228 rfl
theorem r116_230 (d : Nat) (ls st : List Value) (σ : am_St) (τ : Int64) (x : Int32) (y : Nat) : am_run d 116 230 ls (.int x :: .ref y :: st) σ τ = am_run d 116 231 ls (.int x :: .ref y :: .int x :: .ref y :: st) σ τ := rr_dup2 dX10_layWays_230
theorem r116_231 (d : Nat) (ls st : List Value) (σ : am_St) (τ : Int64) (i : Int32) (k : Nat) : am_run d 116 231 ls (.int i :: .ref k :: st) σ τ = am_ai false k i (fun j => am_run d 116 232 ls (.int (σ k j) :: st) σ τ) := rr_iald dX10_layWays_231
theorem r116_232 (d : Nat) (st : List Value) (σ : am_St) (τ : Int64) (x : Nat) (v1 v2 v3 v4 v5 v6 v7 : Value) : am_run d 116 232 [.ref x, v1, v2, v3, v4, v5, v6, v7] st σ τ = am_run d 116 233 [.ref x, v1, v2, v3, v4, v5, v6, v7] (.ref x :: st) σ τ := rr_aload_n dX10_layWays_232 rfl
theorem r116_233 (d : Nat) (ls st : List Value) (σ : am_St) (τ : Int64) (k : Nat) : am_run d 116 233 ls (.ref k :: st) σ τ = am_gf k 10 17 σ τ (fun v => am_run d 116 236 ls (v :: st) σ τ) := rr_getf dX10_layWays_233 (by decide +kernel)
theorem r116_236 (d : Nat) (st : List Value) (σ : am_St) (τ : Int64) (x : Int32) (v0 v1 v2 v3 v4 v5 v6 : Value) : am_run d 116 236 [v0, v1, v2, v3, v4, v5, v6, .int x] st σ τ = am_run d 116 238 [v0, v1, v2, v3, v4, v5, v6, .int x] (.int x :: st) σ τ := rr_iload dX10_layWays_236 rfl
theorem r116_238 (d : Nat) (ls st : List Value) (σ : am_St) (τ : Int64) (i : Int32) (k : Nat) : am_run d 116 238 ls (.int i :: .ref k :: st) σ τ = am_ai false k i (fun j => am_run d 116 239 ls (.int (σ k j) :: st) σ τ) := rr_iald dX10_layWays_238
theorem r116_239 (d : Nat) (ls st : List Value) (σ : am_St) (τ : Int64) : am_run d 116 239 ls st σ τ = am_run d 116 240 ls (.int (-1) :: st) σ τ := rr_iconst (-1) dX10_layWays_239 (by decide)
theorem r116_240 (d : Nat) (ls st : List Value) (σ : am_St) (τ : Int64) (x y : Int32) : am_run d 116 240 ls (.int y :: .int x :: st) σ τ = if x = y then am_run d 116 243 ls st σ τ else am_run d 116 247 ls st σ τ := (rr_icmp 247 dX10_layWays_240 (by decide)).trans am_seln
theorem r116_243 (d : Nat) (ls st : List Value) (σ : am_St) (τ : Int64) : am_run d 116 243 ls st σ τ = am_run d 116 244 ls (.int 0 :: st) σ τ := rr_iconst 0 dX10_layWays_243 (by decide)
theorem r116_244 (d : Nat) (ls st : List Value) (σ : am_St) (τ : Int64) : am_run d 116 244 ls st σ τ = am_run d 116 256 ls st σ τ := rr_goto 256 dX10_layWays_244 (by decide)
theorem r116_247 (d : Nat) (ls st : List Value) (σ : am_St) (τ : Int64) : am_run d 116 247 ls st σ τ = am_run d 116 248 ls (.int 1 :: st) σ τ := rr_iconst 1 dX10_layWays_247 (by decide)
theorem r116_248 (d : Nat) (st : List Value) (σ : am_St) (τ : Int64) (x : Nat) (v1 v2 v3 v4 v5 v6 v7 : Value) : am_run d 116 248 [.ref x, v1, v2, v3, v4, v5, v6, v7] st σ τ = am_run d 116 249 [.ref x, v1, v2, v3, v4, v5, v6, v7] (.ref x :: st) σ τ := rr_aload_n dX10_layWays_248 rfl
theorem r116_249 (d : Nat) (ls st : List Value) (σ : am_St) (τ : Int64) (k : Nat) : am_run d 116 249 ls (.ref k :: st) σ τ = am_gf k 10 17 σ τ (fun v => am_run d 116 252 ls (v :: st) σ τ) := rr_getf dX10_layWays_249 (by decide +kernel)
theorem r116_252 (d : Nat) (st : List Value) (σ : am_St) (τ : Int64) (x : Int32) (v0 v1 v2 v3 v4 v5 v6 : Value) : am_run d 116 252 [v0, v1, v2, v3, v4, v5, v6, .int x] st σ τ = am_run d 116 254 [v0, v1, v2, v3, v4, v5, v6, .int x] (.int x :: st) σ τ := rr_iload dX10_layWays_252 rfl
theorem r116_254 (d : Nat) (ls st : List Value) (σ : am_St) (τ : Int64) (i : Int32) (k : Nat) : am_run d 116 254 ls (.int i :: .ref k :: st) σ τ = am_ai false k i (fun j => am_run d 116 255 ls (.int (σ k j) :: st) σ τ) := rr_iald dX10_layWays_254
theorem r116_255 (d : Nat) (ls st : List Value) (σ : am_St) (τ : Int64) (x y : Int32) : am_run d 116 255 ls (.int y :: .int x :: st) σ τ = am_run d 116 256 ls (.int (x <<< (y &&& 31)) :: st) σ τ := rr_ishl dX10_layWays_255
theorem r116_256 (d : Nat) (ls st : List Value) (σ : am_St) (τ : Int64) (x y : Int32) : am_run d 116 256 ls (.int y :: .int x :: st) σ τ = am_run d 116 257 ls (.int (x ||| y) :: st) σ τ := rr_ior dX10_layWays_256
theorem r116_257 (d : Nat) (ls st : List Value) (σ : am_St) (τ : Int64) (x i : Int32) (k : Nat) : am_run d 116 257 ls (.int x :: .int i :: .ref k :: st) σ τ = am_ai false k i (fun j => am_run d 116 258 ls st (am_up σ k j x) τ) := rr_iast dX10_layWays_257
theorem r116_258 (d : Nat) (st : List Value) (σ : am_St) (τ : Int64) (x : Int32) (v0 v1 v2 v3 v4 v5 v6 : Value) : am_run d 116 258 [v0, v1, v2, v3, v4, v5, v6, .int x] st σ τ = am_run d 116 261 [v0, v1, v2, v3, v4, v5, am_nl v6, .int (x + 1)] st σ τ := rr_iinc 1 _ dX10_layWays_258 rfl (by decide) (by decide) (by first | rfl | (by_cases h : v6.category = 2 <;> simp [am_set1, am_nl, h]))
theorem r116_261 (d : Nat) (ls st : List Value) (σ : am_St) (τ : Int64) : am_run d 116 261 ls st σ τ = am_run d 116 210 ls st σ τ := rr_goto 210 dX10_layWays_261 (by decide)
theorem r116_264 (d : Nat) (st : List Value) (σ : am_St) (τ : Int64) (x : Int32) (v0 v1 v2 v3 v5 v6 v7 : Value) : am_run d 116 264 [v0, v1, v2, v3, .int x, v5, v6, v7] st σ τ = am_run d 116 267 [v0, v1, v2, am_nl v3, .int (x + 1), v5, v6, v7] st σ τ := rr_iinc 1 _ dX10_layWays_264 rfl (by decide) (by decide) (by first | rfl | (by_cases h : v3.category = 2 <;> simp [am_set1, am_nl, h]))
theorem r116_267 (d : Nat) (ls st : List Value) (σ : am_St) (τ : Int64) : am_run d 116 267 ls st σ τ = am_run d 116 88 ls st σ τ := rr_goto 88 dX10_layWays_267 (by decide)
theorem r116_270 (d : Nat) (st : List Value) (σ : am_St) (τ : Int64) (x : Int32) (v0 v1 v3 v4 v5 v6 v7 : Value) : am_run d 116 270 [v0, v1, .int x, v3, v4, v5, v6, v7] st σ τ = am_run d 116 271 [v0, v1, .int x, v3, v4, v5, v6, v7] (.int x :: st) σ τ := rr_iload_n dX10_layWays_270 rfl
theorem r116_271 (d : Nat) (ls : List Value) (σ : am_St) (τ : Int64) (x : Int32) : am_run d 116 271 ls [.int x] σ τ = some (some (.int x), σ, τ) := rr_iret dX10_layWays_271 rfl
theorem dX10_ways_0 : decode (am_code 117) 0 = .ok (.aload_n 0, 1) := by decide +kernel
theorem dX10_ways_1 : decode (am_code 117) 1 = .ok (.invokevirtual 198, 3) := by decide +kernel
theorem dX10_ways_4 : decode (am_code 117) 4 = .ok (.ireturn, 1) := by decide +kernel
theorem r117_0 (d : Nat) (st : List Value) (σ : am_St) (τ : Int64) (x : Nat) : am_run d 117 0 [.ref x] st σ τ = am_run d 117 1 [.ref x] (.ref x :: st) σ τ := rr_aload_n dX10_ways_0 rfl
theorem r117_1 (d : Nat) (ls st : List Value) (σ : am_St) (τ : Int64) (k : Nat)  (hk : am_kc k = 10) (hc : am_cats st ≤ 8) : am_run (d + 1) 117 1 ls (.ref k :: st) σ τ = (am_call d 116 [.ref k] σ τ).bind (fun r => am_run (d + 1) 117 4 ls (r.1.toList ++ st) r.2.1 r.2.2) := rr_invv [] dX10_ways_1 (by decide +kernel) (by decide) rfl (Nat.le_of_ble_eq_true rfl) hk hc
theorem r117_4 (d : Nat) (ls : List Value) (σ : am_St) (τ : Int64) (x : Int32) : am_run d 117 4 ls [.int x] σ τ = some (some (.int x), σ, τ) := rr_iret dX10_ways_4 rfl
theorem dX10_sureNow_0 : decode (am_code 118) 0 = .ok (.iconst 0, 1) := by decide +kernel
theorem dX10_sureNow_1 : decode (am_code 118) 1 = .ok (.istore_n 2, 1) := by decide +kernel
theorem dX10_sureNow_2 : decode (am_code 118) 2 = .ok (.iload_n 2, 1) := by decide +kernel
theorem dX10_sureNow_3 : decode (am_code 118) 3 = .ok (.aload_n 0, 1) := by decide +kernel
theorem dX10_sureNow_4 : decode (am_code 118) 4 = .ok (.getfield 129, 3) := by decide +kernel
theorem dX10_sureNow_7 : decode (am_code 118) 7 = .ok (.if_icmp .ge 23, 3) := by decide +kernel
theorem dX10_sureNow_10 : decode (am_code 118) 10 = .ok (.aload_n 0, 1) := by decide +kernel
theorem dX10_sureNow_11 : decode (am_code 118) 11 = .ok (.getfield 64, 3) := by decide +kernel
theorem dX10_sureNow_14 : decode (am_code 118) 14 = .ok (.iload_n 1, 1) := by decide +kernel
theorem dX10_sureNow_15 : decode (am_code 118) 15 = .ok (.iaload, 1) := by decide +kernel
theorem dX10_sureNow_16 : decode (am_code 118) 16 = .ok (.iconst 1, 1) := by decide +kernel
theorem dX10_sureNow_17 : decode (am_code 118) 17 = .ok (.iload_n 2, 1) := by decide +kernel
theorem dX10_sureNow_18 : decode (am_code 118) 18 = .ok (.ishl, 1) := by decide +kernel
theorem dX10_sureNow_19 : decode (am_code 118) 19 = .ok (.if_icmp .ne 5, 3) := by decide +kernel
theorem dX10_sureNow_22 : decode (am_code 118) 22 = .ok (.iload_n 2, 1) := by decide +kernel
theorem dX10_sureNow_23 : decode (am_code 118) 23 = .ok (.ireturn, 1) := by decide +kernel
theorem dX10_sureNow_24 : decode (am_code 118) 24 = .ok (.iinc 2 1, 3) := by decide +kernel
theorem dX10_sureNow_27 : decode (am_code 118) 27 = .ok (.goto (-25), 3) := by decide +kernel
theorem dX10_sureNow_30 : decode (am_code 118) 30 = .ok (.iconst (-1), 1) := by decide +kernel
theorem dX10_sureNow_31 : decode (am_code 118) 31 = .ok (.ireturn, 1) := by decide +kernel
theorem r118_0 (d : Nat) (ls st : List Value) (σ : am_St) (τ : Int64) : am_run d 118 0 ls st σ τ = am_run d 118 1 ls (.int 0 :: st) σ τ := rr_iconst 0 dX10_sureNow_0 (by decide)
theorem r118_1 (d : Nat) (st : List Value) (σ : am_St) (τ : Int64) (x : Int32) (v0 v1 v2 : Value) : am_run d 118 1 [v0, v1, v2] (.int x :: st) σ τ = am_run d 118 2 [v0, am_nl v1, .int x] st σ τ := rr_istore_n _ dX10_sureNow_1 (by decide) (by first | rfl | (by_cases h : v1.category = 2 <;> simp [am_set1, am_nl, h]))
theorem r118_2 (d : Nat) (st : List Value) (σ : am_St) (τ : Int64) (x : Int32) (v0 v1 : Value) : am_run d 118 2 [v0, v1, .int x] st σ τ = am_run d 118 3 [v0, v1, .int x] (.int x :: st) σ τ := rr_iload_n dX10_sureNow_2 rfl
theorem r118_3 (d : Nat) (st : List Value) (σ : am_St) (τ : Int64) (x : Nat) (v1 v2 : Value) : am_run d 118 3 [.ref x, v1, v2] st σ τ = am_run d 118 4 [.ref x, v1, v2] (.ref x :: st) σ τ := rr_aload_n dX10_sureNow_3 rfl
theorem r118_4 (d : Nat) (ls st : List Value) (σ : am_St) (τ : Int64) (k : Nat) : am_run d 118 4 ls (.ref k :: st) σ τ = am_gf k 10 6 σ τ (fun v => am_run d 118 7 ls (v :: st) σ τ) := rr_getf dX10_sureNow_4 (by decide +kernel)
theorem r118_7 (d : Nat) (ls st : List Value) (σ : am_St) (τ : Int64) (x y : Int32) : am_run d 118 7 ls (.int y :: .int x :: st) σ τ = if y ≤ x then am_run d 118 30 ls st σ τ else am_run d 118 10 ls st σ τ := (rr_icmp 30 dX10_sureNow_7 (by decide)).trans am_sel
theorem r118_10 (d : Nat) (st : List Value) (σ : am_St) (τ : Int64) (x : Nat) (v1 v2 : Value) : am_run d 118 10 [.ref x, v1, v2] st σ τ = am_run d 118 11 [.ref x, v1, v2] (.ref x :: st) σ τ := rr_aload_n dX10_sureNow_10 rfl
theorem r118_11 (d : Nat) (ls st : List Value) (σ : am_St) (τ : Int64) (k : Nat) : am_run d 118 11 ls (.ref k :: st) σ τ = am_gf k 10 24 σ τ (fun v => am_run d 118 14 ls (v :: st) σ τ) := rr_getf dX10_sureNow_11 (by decide +kernel)
theorem r118_14 (d : Nat) (st : List Value) (σ : am_St) (τ : Int64) (x : Int32) (v0 v2 : Value) : am_run d 118 14 [v0, .int x, v2] st σ τ = am_run d 118 15 [v0, .int x, v2] (.int x :: st) σ τ := rr_iload_n dX10_sureNow_14 rfl
theorem r118_15 (d : Nat) (ls st : List Value) (σ : am_St) (τ : Int64) (i : Int32) (k : Nat) : am_run d 118 15 ls (.int i :: .ref k :: st) σ τ = am_ai false k i (fun j => am_run d 118 16 ls (.int (σ k j) :: st) σ τ) := rr_iald dX10_sureNow_15
theorem r118_16 (d : Nat) (ls st : List Value) (σ : am_St) (τ : Int64) : am_run d 118 16 ls st σ τ = am_run d 118 17 ls (.int 1 :: st) σ τ := rr_iconst 1 dX10_sureNow_16 (by decide)
theorem r118_17 (d : Nat) (st : List Value) (σ : am_St) (τ : Int64) (x : Int32) (v0 v1 : Value) : am_run d 118 17 [v0, v1, .int x] st σ τ = am_run d 118 18 [v0, v1, .int x] (.int x :: st) σ τ := rr_iload_n dX10_sureNow_17 rfl
theorem r118_18 (d : Nat) (ls st : List Value) (σ : am_St) (τ : Int64) (x y : Int32) : am_run d 118 18 ls (.int y :: .int x :: st) σ τ = am_run d 118 19 ls (.int (x <<< (y &&& 31)) :: st) σ τ := rr_ishl dX10_sureNow_18
theorem r118_19 (d : Nat) (ls st : List Value) (σ : am_St) (τ : Int64) (x y : Int32) : am_run d 118 19 ls (.int y :: .int x :: st) σ τ = if x = y then am_run d 118 22 ls st σ τ else am_run d 118 24 ls st σ τ := (rr_icmp 24 dX10_sureNow_19 (by decide)).trans am_seln
theorem r118_22 (d : Nat) (st : List Value) (σ : am_St) (τ : Int64) (x : Int32) (v0 v1 : Value) : am_run d 118 22 [v0, v1, .int x] st σ τ = am_run d 118 23 [v0, v1, .int x] (.int x :: st) σ τ := rr_iload_n dX10_sureNow_22 rfl
theorem r118_23 (d : Nat) (ls : List Value) (σ : am_St) (τ : Int64) (x : Int32) : am_run d 118 23 ls [.int x] σ τ = some (some (.int x), σ, τ) := rr_iret dX10_sureNow_23 rfl
theorem r118_24 (d : Nat) (st : List Value) (σ : am_St) (τ : Int64) (x : Int32) (v0 v1 : Value) : am_run d 118 24 [v0, v1, .int x] st σ τ = am_run d 118 27 [v0, am_nl v1, .int (x + 1)] st σ τ := rr_iinc 1 _ dX10_sureNow_24 rfl (by decide) (by decide) (by first | rfl | (by_cases h : v1.category = 2 <;> simp [am_set1, am_nl, h]))
theorem r118_27 (d : Nat) (ls st : List Value) (σ : am_St) (τ : Int64) : am_run d 118 27 ls st σ τ = am_run d 118 2 ls st σ τ := rr_goto 2 dX10_sureNow_27 (by decide)
theorem r118_30 (d : Nat) (ls st : List Value) (σ : am_St) (τ : Int64) : am_run d 118 30 ls st σ τ = am_run d 118 31 ls (.int (-1) :: st) σ τ := rr_iconst (-1) dX10_sureNow_30 (by decide)
theorem r118_31 (d : Nat) (ls : List Value) (σ : am_St) (τ : Int64) (x : Int32) : am_run d 118 31 ls [.int x] σ τ = some (some (.int x), σ, τ) := rr_iret dX10_sureNow_31 rfl
theorem dX10_sure_0 : decode (am_code 119) 0 = .ok (.aload_n 0, 1) := by decide +kernel
theorem dX10_sure_1 : decode (am_code 119) 1 = .ok (.iload_n 1, 1) := by decide +kernel
theorem dX10_sure_2 : decode (am_code 119) 2 = .ok (.invokevirtual 138, 3) := by decide +kernel
theorem dX10_sure_5 : decode (am_code 119) 5 = .ok (.ifCond .ne 6, 3) := by decide +kernel
theorem dX10_sure_8 : decode (am_code 119) 8 = .ok (.bipush (-101), 2) := by decide +kernel
theorem dX10_sure_10 : decode (am_code 119) 10 = .ok (.ireturn, 1) := by decide +kernel
theorem dX10_sure_11 : decode (am_code 119) 11 = .ok (.aload_n 0, 1) := by decide +kernel
theorem dX10_sure_12 : decode (am_code 119) 12 = .ok (.invokevirtual 198, 3) := by decide +kernel
theorem dX10_sure_15 : decode (am_code 119) 15 = .ok (.istore_n 2, 1) := by decide +kernel
theorem dX10_sure_16 : decode (am_code 119) 16 = .ok (.aload_n 0, 1) := by decide +kernel
theorem dX10_sure_17 : decode (am_code 119) 17 = .ok (.iload_n 1, 1) := by decide +kernel
theorem dX10_sure_18 : decode (am_code 119) 18 = .ok (.invokevirtual 201, 3) := by decide +kernel
theorem dX10_sure_21 : decode (am_code 119) 21 = .ok (.ireturn, 1) := by decide +kernel
theorem r119_0 (d : Nat) (st : List Value) (σ : am_St) (τ : Int64) (x : Nat) (v1 v2 : Value) : am_run d 119 0 [.ref x, v1, v2] st σ τ = am_run d 119 1 [.ref x, v1, v2] (.ref x :: st) σ τ := rr_aload_n dX10_sure_0 rfl
theorem r119_1 (d : Nat) (st : List Value) (σ : am_St) (τ : Int64) (x : Int32) (v0 v2 : Value) : am_run d 119 1 [v0, .int x, v2] st σ τ = am_run d 119 2 [v0, .int x, v2] (.int x :: st) σ τ := rr_iload_n dX10_sure_1 rfl
theorem r119_2 (d : Nat) (ls st : List Value) (σ : am_St) (τ : Int64) (k : Nat) (a0 : Int32) (hk : am_kc k = 10) (hc : am_cats st ≤ 8) : am_run (d + 1) 119 2 ls (.int a0 :: .ref k :: st) σ τ = (am_call d 91 [.ref k, .int a0] σ τ).bind (fun r => am_run (d + 1) 119 5 ls (r.1.toList ++ st) r.2.1 r.2.2) := rr_invv [.int a0] dX10_sure_2 (by decide +kernel) (by decide) rfl (Nat.le_of_ble_eq_true rfl) hk hc
theorem r119_5 (d : Nat) (ls st : List Value) (σ : am_St) (τ : Int64) (x : Int32) : am_run d 119 5 ls (.int x :: st) σ τ = if x = 0 then am_run d 119 8 ls st σ τ else am_run d 119 11 ls st σ τ := (rr_if 11 dX10_sure_5 (by decide)).trans am_seln
theorem r119_8 (d : Nat) (ls st : List Value) (σ : am_St) (τ : Int64) : am_run d 119 8 ls st σ τ = am_run d 119 10 ls (.int (-101) :: st) σ τ := rr_bipush (-101) dX10_sure_8 (by decide)
theorem r119_10 (d : Nat) (ls : List Value) (σ : am_St) (τ : Int64) (x : Int32) : am_run d 119 10 ls [.int x] σ τ = some (some (.int x), σ, τ) := rr_iret dX10_sure_10 rfl
theorem r119_11 (d : Nat) (st : List Value) (σ : am_St) (τ : Int64) (x : Nat) (v1 v2 : Value) : am_run d 119 11 [.ref x, v1, v2] st σ τ = am_run d 119 12 [.ref x, v1, v2] (.ref x :: st) σ τ := rr_aload_n dX10_sure_11 rfl
theorem r119_12 (d : Nat) (ls st : List Value) (σ : am_St) (τ : Int64) (k : Nat)  (hk : am_kc k = 10) (hc : am_cats st ≤ 8) : am_run (d + 1) 119 12 ls (.ref k :: st) σ τ = (am_call d 116 [.ref k] σ τ).bind (fun r => am_run (d + 1) 119 15 ls (r.1.toList ++ st) r.2.1 r.2.2) := rr_invv [] dX10_sure_12 (by decide +kernel) (by decide) rfl (Nat.le_of_ble_eq_true rfl) hk hc
theorem r119_15 (d : Nat) (st : List Value) (σ : am_St) (τ : Int64) (x : Int32) (v0 v1 v2 : Value) : am_run d 119 15 [v0, v1, v2] (.int x :: st) σ τ = am_run d 119 16 [v0, am_nl v1, .int x] st σ τ := rr_istore_n _ dX10_sure_15 (by decide) (by first | rfl | (by_cases h : v1.category = 2 <;> simp [am_set1, am_nl, h]))
theorem r119_16 (d : Nat) (st : List Value) (σ : am_St) (τ : Int64) (x : Nat) (v1 v2 : Value) : am_run d 119 16 [.ref x, v1, v2] st σ τ = am_run d 119 17 [.ref x, v1, v2] (.ref x :: st) σ τ := rr_aload_n dX10_sure_16 rfl
theorem r119_17 (d : Nat) (st : List Value) (σ : am_St) (τ : Int64) (x : Int32) (v0 v2 : Value) : am_run d 119 17 [v0, .int x, v2] st σ τ = am_run d 119 18 [v0, .int x, v2] (.int x :: st) σ τ := rr_iload_n dX10_sure_17 rfl
theorem r119_18 (d : Nat) (ls st : List Value) (σ : am_St) (τ : Int64) (k : Nat) (a0 : Int32) (hk : am_kc k = 10) (hc : am_cats st ≤ 8) : am_run (d + 1) 119 18 ls (.int a0 :: .ref k :: st) σ τ = (am_call d 118 [.ref k, .int a0] σ τ).bind (fun r => am_run (d + 1) 119 21 ls (r.1.toList ++ st) r.2.1 r.2.2) := rr_invv [.int a0] dX10_sure_18 (by decide +kernel) (by decide) rfl (Nat.le_of_ble_eq_true rfl) hk hc
theorem r119_21 (d : Nat) (ls : List Value) (σ : am_St) (τ : Int64) (x : Int32) : am_run d 119 21 ls [.int x] σ τ = some (some (.int x), σ, τ) := rr_iret dX10_sure_21 rfl
theorem dX10_tryLaw_0 : decode (am_code 120) 0 = .ok (.aload_n 0, 1) := by decide +kernel
theorem dX10_tryLaw_1 : decode (am_code 120) 1 = .ok (.getfield 52, 3) := by decide +kernel
theorem dX10_tryLaw_4 : decode (am_code 120) 4 = .ok (.iconst 0, 1) := by decide +kernel
theorem dX10_tryLaw_5 : decode (am_code 120) 5 = .ok (.iload_n 1, 1) := by decide +kernel
theorem dX10_tryLaw_6 : decode (am_code 120) 6 = .ok (.iastore, 1) := by decide +kernel
theorem dX10_tryLaw_7 : decode (am_code 120) 7 = .ok (.aload_n 0, 1) := by decide +kernel
theorem dX10_tryLaw_8 : decode (am_code 120) 8 = .ok (.getfield 52, 3) := by decide +kernel
theorem dX10_tryLaw_11 : decode (am_code 120) 11 = .ok (.iconst 1, 1) := by decide +kernel
theorem dX10_tryLaw_12 : decode (am_code 120) 12 = .ok (.iload_n 2, 1) := by decide +kernel
theorem dX10_tryLaw_13 : decode (am_code 120) 13 = .ok (.iastore, 1) := by decide +kernel
theorem dX10_tryLaw_14 : decode (am_code 120) 14 = .ok (.aload_n 0, 1) := by decide +kernel
theorem dX10_tryLaw_15 : decode (am_code 120) 15 = .ok (.getfield 52, 3) := by decide +kernel
theorem dX10_tryLaw_18 : decode (am_code 120) 18 = .ok (.iconst 2, 1) := by decide +kernel
theorem dX10_tryLaw_19 : decode (am_code 120) 19 = .ok (.iload_n 3, 1) := by decide +kernel
theorem dX10_tryLaw_20 : decode (am_code 120) 20 = .ok (.iastore, 1) := by decide +kernel
theorem dX10_tryLaw_21 : decode (am_code 120) 21 = .ok (.aload_n 0, 1) := by decide +kernel
theorem dX10_tryLaw_22 : decode (am_code 120) 22 = .ok (.invokevirtual 165, 3) := by decide +kernel
theorem dX10_tryLaw_25 : decode (am_code 120) 25 = .ok (.aload_n 0, 1) := by decide +kernel
theorem dX10_tryLaw_26 : decode (am_code 120) 26 = .ok (.invokevirtual 182, 3) := by decide +kernel
theorem dX10_tryLaw_29 : decode (am_code 120) 29 = .ok (.ifCond .ne 88, 3) := by decide +kernel
theorem dX10_tryLaw_32 : decode (am_code 120) 32 = .ok (.aload_n 0, 1) := by decide +kernel
theorem dX10_tryLaw_33 : decode (am_code 120) 33 = .ok (.getfield 70, 3) := by decide +kernel
theorem dX10_tryLaw_36 : decode (am_code 120) 36 = .ok (.iconst 1, 1) := by decide +kernel
theorem dX10_tryLaw_37 : decode (am_code 120) 37 = .ok (.aload_n 0, 1) := by decide +kernel
theorem dX10_tryLaw_38 : decode (am_code 120) 38 = .ok (.getfield 70, 3) := by decide +kernel
theorem dX10_tryLaw_41 : decode (am_code 120) 41 = .ok (.iconst 0, 1) := by decide +kernel
theorem dX10_tryLaw_42 : decode (am_code 120) 42 = .ok (.iaload, 1) := by decide +kernel
theorem dX10_tryLaw_43 : decode (am_code 120) 43 = .ok (.ifCond .ne 7, 3) := by decide +kernel
theorem dX10_tryLaw_46 : decode (am_code 120) 46 = .ok (.iload_n 1, 1) := by decide +kernel
theorem dX10_tryLaw_47 : decode (am_code 120) 47 = .ok (.goto 9, 3) := by decide +kernel
theorem dX10_tryLaw_50 : decode (am_code 120) 50 = .ok (.aload_n 0, 1) := by decide +kernel
theorem dX10_tryLaw_51 : decode (am_code 120) 51 = .ok (.getfield 70, 3) := by decide +kernel
theorem dX10_tryLaw_54 : decode (am_code 120) 54 = .ok (.iconst 1, 1) := by decide +kernel
theorem dX10_tryLaw_55 : decode (am_code 120) 55 = .ok (.iaload, 1) := by decide +kernel
theorem dX10_tryLaw_56 : decode (am_code 120) 56 = .ok (.iastore, 1) := by decide +kernel
theorem dX10_tryLaw_57 : decode (am_code 120) 57 = .ok (.aload_n 0, 1) := by decide +kernel
theorem dX10_tryLaw_58 : decode (am_code 120) 58 = .ok (.getfield 70, 3) := by decide +kernel
theorem dX10_tryLaw_61 : decode (am_code 120) 61 = .ok (.iconst 2, 1) := by decide +kernel
theorem dX10_tryLaw_62 : decode (am_code 120) 62 = .ok (.aload_n 0, 1) := by decide +kernel
theorem dX10_tryLaw_63 : decode (am_code 120) 63 = .ok (.getfield 70, 3) := by decide +kernel
theorem dX10_tryLaw_66 : decode (am_code 120) 66 = .ok (.iconst 0, 1) := by decide +kernel
theorem dX10_tryLaw_67 : decode (am_code 120) 67 = .ok (.iaload, 1) := by decide +kernel
theorem dX10_tryLaw_68 : decode (am_code 120) 68 = .ok (.ifCond .ne 7, 3) := by decide +kernel
theorem dX10_tryLaw_71 : decode (am_code 120) 71 = .ok (.iload_n 2, 1) := by decide +kernel
theorem dX10_tryLaw_72 : decode (am_code 120) 72 = .ok (.goto 9, 3) := by decide +kernel
theorem dX10_tryLaw_75 : decode (am_code 120) 75 = .ok (.aload_n 0, 1) := by decide +kernel
theorem dX10_tryLaw_76 : decode (am_code 120) 76 = .ok (.getfield 70, 3) := by decide +kernel
theorem dX10_tryLaw_79 : decode (am_code 120) 79 = .ok (.iconst 2, 1) := by decide +kernel
theorem dX10_tryLaw_80 : decode (am_code 120) 80 = .ok (.iaload, 1) := by decide +kernel
theorem dX10_tryLaw_81 : decode (am_code 120) 81 = .ok (.iastore, 1) := by decide +kernel
theorem dX10_tryLaw_82 : decode (am_code 120) 82 = .ok (.aload_n 0, 1) := by decide +kernel
theorem dX10_tryLaw_83 : decode (am_code 120) 83 = .ok (.getfield 70, 3) := by decide +kernel
theorem dX10_tryLaw_86 : decode (am_code 120) 86 = .ok (.iconst 3, 1) := by decide +kernel
theorem dX10_tryLaw_87 : decode (am_code 120) 87 = .ok (.aload_n 0, 1) := by decide +kernel
theorem dX10_tryLaw_88 : decode (am_code 120) 88 = .ok (.getfield 70, 3) := by decide +kernel
theorem dX10_tryLaw_91 : decode (am_code 120) 91 = .ok (.iconst 0, 1) := by decide +kernel
theorem dX10_tryLaw_92 : decode (am_code 120) 92 = .ok (.iaload, 1) := by decide +kernel
theorem dX10_tryLaw_93 : decode (am_code 120) 93 = .ok (.ifCond .ne 7, 3) := by decide +kernel
theorem dX10_tryLaw_96 : decode (am_code 120) 96 = .ok (.iload_n 3, 1) := by decide +kernel
theorem dX10_tryLaw_97 : decode (am_code 120) 97 = .ok (.goto 9, 3) := by decide +kernel
theorem dX10_tryLaw_100 : decode (am_code 120) 100 = .ok (.aload_n 0, 1) := by decide +kernel
theorem dX10_tryLaw_101 : decode (am_code 120) 101 = .ok (.getfield 70, 3) := by decide +kernel
theorem dX10_tryLaw_104 : decode (am_code 120) 104 = .ok (.iconst 3, 1) := by decide +kernel
theorem dX10_tryLaw_105 : decode (am_code 120) 105 = .ok (.iaload, 1) := by decide +kernel
theorem dX10_tryLaw_106 : decode (am_code 120) 106 = .ok (.iastore, 1) := by decide +kernel
theorem dX10_tryLaw_107 : decode (am_code 120) 107 = .ok (.aload_n 0, 1) := by decide +kernel
theorem dX10_tryLaw_108 : decode (am_code 120) 108 = .ok (.getfield 70, 3) := by decide +kernel
theorem dX10_tryLaw_111 : decode (am_code 120) 111 = .ok (.iconst 0, 1) := by decide +kernel
theorem dX10_tryLaw_112 : decode (am_code 120) 112 = .ok (.dup2, 1) := by decide +kernel
theorem dX10_tryLaw_113 : decode (am_code 120) 113 = .ok (.iaload, 1) := by decide +kernel
theorem dX10_tryLaw_114 : decode (am_code 120) 114 = .ok (.iconst 1, 1) := by decide +kernel
theorem dX10_tryLaw_115 : decode (am_code 120) 115 = .ok (.iadd, 1) := by decide +kernel
theorem dX10_tryLaw_116 : decode (am_code 120) 116 = .ok (.iastore, 1) := by decide +kernel
theorem dX10_tryLaw_117 : decode (am_code 120) 117 = .ok (.return_, 1) := by decide +kernel
theorem r120_0 (d : Nat) (st : List Value) (σ : am_St) (τ : Int64) (x : Nat) (v1 v2 v3 : Value) : am_run d 120 0 [.ref x, v1, v2, v3] st σ τ = am_run d 120 1 [.ref x, v1, v2, v3] (.ref x :: st) σ τ := rr_aload_n dX10_tryLaw_0 rfl
theorem r120_1 (d : Nat) (ls st : List Value) (σ : am_St) (τ : Int64) (k : Nat) : am_run d 120 1 ls (.ref k :: st) σ τ = am_gf k 10 19 σ τ (fun v => am_run d 120 4 ls (v :: st) σ τ) := rr_getf dX10_tryLaw_1 (by decide +kernel)
theorem r120_4 (d : Nat) (ls st : List Value) (σ : am_St) (τ : Int64) : am_run d 120 4 ls st σ τ = am_run d 120 5 ls (.int 0 :: st) σ τ := rr_iconst 0 dX10_tryLaw_4 (by decide)
theorem r120_5 (d : Nat) (st : List Value) (σ : am_St) (τ : Int64) (x : Int32) (v0 v2 v3 : Value) : am_run d 120 5 [v0, .int x, v2, v3] st σ τ = am_run d 120 6 [v0, .int x, v2, v3] (.int x :: st) σ τ := rr_iload_n dX10_tryLaw_5 rfl
theorem r120_6 (d : Nat) (ls st : List Value) (σ : am_St) (τ : Int64) (x i : Int32) (k : Nat) : am_run d 120 6 ls (.int x :: .int i :: .ref k :: st) σ τ = am_ai false k i (fun j => am_run d 120 7 ls st (am_up σ k j x) τ) := rr_iast dX10_tryLaw_6
theorem r120_7 (d : Nat) (st : List Value) (σ : am_St) (τ : Int64) (x : Nat) (v1 v2 v3 : Value) : am_run d 120 7 [.ref x, v1, v2, v3] st σ τ = am_run d 120 8 [.ref x, v1, v2, v3] (.ref x :: st) σ τ := rr_aload_n dX10_tryLaw_7 rfl
theorem r120_8 (d : Nat) (ls st : List Value) (σ : am_St) (τ : Int64) (k : Nat) : am_run d 120 8 ls (.ref k :: st) σ τ = am_gf k 10 19 σ τ (fun v => am_run d 120 11 ls (v :: st) σ τ) := rr_getf dX10_tryLaw_8 (by decide +kernel)
theorem r120_11 (d : Nat) (ls st : List Value) (σ : am_St) (τ : Int64) : am_run d 120 11 ls st σ τ = am_run d 120 12 ls (.int 1 :: st) σ τ := rr_iconst 1 dX10_tryLaw_11 (by decide)
theorem r120_12 (d : Nat) (st : List Value) (σ : am_St) (τ : Int64) (x : Int32) (v0 v1 v3 : Value) : am_run d 120 12 [v0, v1, .int x, v3] st σ τ = am_run d 120 13 [v0, v1, .int x, v3] (.int x :: st) σ τ := rr_iload_n dX10_tryLaw_12 rfl
theorem r120_13 (d : Nat) (ls st : List Value) (σ : am_St) (τ : Int64) (x i : Int32) (k : Nat) : am_run d 120 13 ls (.int x :: .int i :: .ref k :: st) σ τ = am_ai false k i (fun j => am_run d 120 14 ls st (am_up σ k j x) τ) := rr_iast dX10_tryLaw_13
theorem r120_14 (d : Nat) (st : List Value) (σ : am_St) (τ : Int64) (x : Nat) (v1 v2 v3 : Value) : am_run d 120 14 [.ref x, v1, v2, v3] st σ τ = am_run d 120 15 [.ref x, v1, v2, v3] (.ref x :: st) σ τ := rr_aload_n dX10_tryLaw_14 rfl
theorem r120_15 (d : Nat) (ls st : List Value) (σ : am_St) (τ : Int64) (k : Nat) : am_run d 120 15 ls (.ref k :: st) σ τ = am_gf k 10 19 σ τ (fun v => am_run d 120 18 ls (v :: st) σ τ) := rr_getf dX10_tryLaw_15 (by decide +kernel)
theorem r120_18 (d : Nat) (ls st : List Value) (σ : am_St) (τ : Int64) : am_run d 120 18 ls st σ τ = am_run d 120 19 ls (.int 2 :: st) σ τ := rr_iconst 2 dX10_tryLaw_18 (by decide)
theorem r120_19 (d : Nat) (st : List Value) (σ : am_St) (τ : Int64) (x : Int32) (v0 v1 v2 : Value) : am_run d 120 19 [v0, v1, v2, .int x] st σ τ = am_run d 120 20 [v0, v1, v2, .int x] (.int x :: st) σ τ := rr_iload_n dX10_tryLaw_19 rfl
theorem r120_20 (d : Nat) (ls st : List Value) (σ : am_St) (τ : Int64) (x i : Int32) (k : Nat) : am_run d 120 20 ls (.int x :: .int i :: .ref k :: st) σ τ = am_ai false k i (fun j => am_run d 120 21 ls st (am_up σ k j x) τ) := rr_iast dX10_tryLaw_20
theorem r120_21 (d : Nat) (st : List Value) (σ : am_St) (τ : Int64) (x : Nat) (v1 v2 v3 : Value) : am_run d 120 21 [.ref x, v1, v2, v3] st σ τ = am_run d 120 22 [.ref x, v1, v2, v3] (.ref x :: st) σ τ := rr_aload_n dX10_tryLaw_21 rfl
theorem r120_22 (d : Nat) (ls st : List Value) (σ : am_St) (τ : Int64) (k : Nat)  (hk : am_kc k = 10) (hc : am_cats st ≤ 8) : am_run (d + 1) 120 22 ls (.ref k :: st) σ τ = (am_call d 99 [.ref k] σ τ).bind (fun r => am_run (d + 1) 120 25 ls (r.1.toList ++ st) r.2.1 r.2.2) := rr_invv [] dX10_tryLaw_22 (by decide +kernel) (by decide) rfl (Nat.le_of_ble_eq_true rfl) hk hc
theorem r120_25 (d : Nat) (st : List Value) (σ : am_St) (τ : Int64) (x : Nat) (v1 v2 v3 : Value) : am_run d 120 25 [.ref x, v1, v2, v3] st σ τ = am_run d 120 26 [.ref x, v1, v2, v3] (.ref x :: st) σ τ := rr_aload_n dX10_tryLaw_25 rfl
theorem r120_26 (d : Nat) (ls st : List Value) (σ : am_St) (τ : Int64) (k : Nat)  (hk : am_kc k = 10) (hc : am_cats st ≤ 8) : am_run (d + 1) 120 26 ls (.ref k :: st) σ τ = (am_call d 102 [.ref k] σ τ).bind (fun r => am_run (d + 1) 120 29 ls (r.1.toList ++ st) r.2.1 r.2.2) := rr_invv [] dX10_tryLaw_26 (by decide +kernel) (by decide) rfl (Nat.le_of_ble_eq_true rfl) hk hc
theorem r120_29 (d : Nat) (ls st : List Value) (σ : am_St) (τ : Int64) (x : Int32) : am_run d 120 29 ls (.int x :: st) σ τ = if x = 0 then am_run d 120 32 ls st σ τ else am_run d 120 117 ls st σ τ := (rr_if 117 dX10_tryLaw_29 (by decide)).trans am_seln
theorem r120_32 (d : Nat) (st : List Value) (σ : am_St) (τ : Int64) (x : Nat) (v1 v2 v3 : Value) : am_run d 120 32 [.ref x, v1, v2, v3] st σ τ = am_run d 120 33 [.ref x, v1, v2, v3] (.ref x :: st) σ τ := rr_aload_n dX10_tryLaw_32 rfl
theorem r120_33 (d : Nat) (ls st : List Value) (σ : am_St) (τ : Int64) (k : Nat) : am_run d 120 33 ls (.ref k :: st) σ τ = am_gf k 10 26 σ τ (fun v => am_run d 120 36 ls (v :: st) σ τ) := rr_getf dX10_tryLaw_33 (by decide +kernel)
theorem r120_36 (d : Nat) (ls st : List Value) (σ : am_St) (τ : Int64) : am_run d 120 36 ls st σ τ = am_run d 120 37 ls (.int 1 :: st) σ τ := rr_iconst 1 dX10_tryLaw_36 (by decide)
theorem r120_37 (d : Nat) (st : List Value) (σ : am_St) (τ : Int64) (x : Nat) (v1 v2 v3 : Value) : am_run d 120 37 [.ref x, v1, v2, v3] st σ τ = am_run d 120 38 [.ref x, v1, v2, v3] (.ref x :: st) σ τ := rr_aload_n dX10_tryLaw_37 rfl
theorem r120_38 (d : Nat) (ls st : List Value) (σ : am_St) (τ : Int64) (k : Nat) : am_run d 120 38 ls (.ref k :: st) σ τ = am_gf k 10 26 σ τ (fun v => am_run d 120 41 ls (v :: st) σ τ) := rr_getf dX10_tryLaw_38 (by decide +kernel)
theorem r120_41 (d : Nat) (ls st : List Value) (σ : am_St) (τ : Int64) : am_run d 120 41 ls st σ τ = am_run d 120 42 ls (.int 0 :: st) σ τ := rr_iconst 0 dX10_tryLaw_41 (by decide)
theorem r120_42 (d : Nat) (ls st : List Value) (σ : am_St) (τ : Int64) (i : Int32) (k : Nat) : am_run d 120 42 ls (.int i :: .ref k :: st) σ τ = am_ai false k i (fun j => am_run d 120 43 ls (.int (σ k j) :: st) σ τ) := rr_iald dX10_tryLaw_42
theorem r120_43 (d : Nat) (ls st : List Value) (σ : am_St) (τ : Int64) (x : Int32) : am_run d 120 43 ls (.int x :: st) σ τ = if x = 0 then am_run d 120 46 ls st σ τ else am_run d 120 50 ls st σ τ := (rr_if 50 dX10_tryLaw_43 (by decide)).trans am_seln
theorem r120_46 (d : Nat) (st : List Value) (σ : am_St) (τ : Int64) (x : Int32) (v0 v2 v3 : Value) : am_run d 120 46 [v0, .int x, v2, v3] st σ τ = am_run d 120 47 [v0, .int x, v2, v3] (.int x :: st) σ τ := rr_iload_n dX10_tryLaw_46 rfl
theorem r120_47 (d : Nat) (ls st : List Value) (σ : am_St) (τ : Int64) : am_run d 120 47 ls st σ τ = am_run d 120 56 ls st σ τ := rr_goto 56 dX10_tryLaw_47 (by decide)
theorem r120_50 (d : Nat) (st : List Value) (σ : am_St) (τ : Int64) (x : Nat) (v1 v2 v3 : Value) : am_run d 120 50 [.ref x, v1, v2, v3] st σ τ = am_run d 120 51 [.ref x, v1, v2, v3] (.ref x :: st) σ τ := rr_aload_n dX10_tryLaw_50 rfl
theorem r120_51 (d : Nat) (ls st : List Value) (σ : am_St) (τ : Int64) (k : Nat) : am_run d 120 51 ls (.ref k :: st) σ τ = am_gf k 10 26 σ τ (fun v => am_run d 120 54 ls (v :: st) σ τ) := rr_getf dX10_tryLaw_51 (by decide +kernel)
theorem r120_54 (d : Nat) (ls st : List Value) (σ : am_St) (τ : Int64) : am_run d 120 54 ls st σ τ = am_run d 120 55 ls (.int 1 :: st) σ τ := rr_iconst 1 dX10_tryLaw_54 (by decide)
theorem r120_55 (d : Nat) (ls st : List Value) (σ : am_St) (τ : Int64) (i : Int32) (k : Nat) : am_run d 120 55 ls (.int i :: .ref k :: st) σ τ = am_ai false k i (fun j => am_run d 120 56 ls (.int (σ k j) :: st) σ τ) := rr_iald dX10_tryLaw_55
theorem r120_56 (d : Nat) (ls st : List Value) (σ : am_St) (τ : Int64) (x i : Int32) (k : Nat) : am_run d 120 56 ls (.int x :: .int i :: .ref k :: st) σ τ = am_ai false k i (fun j => am_run d 120 57 ls st (am_up σ k j x) τ) := rr_iast dX10_tryLaw_56
theorem r120_57 (d : Nat) (st : List Value) (σ : am_St) (τ : Int64) (x : Nat) (v1 v2 v3 : Value) : am_run d 120 57 [.ref x, v1, v2, v3] st σ τ = am_run d 120 58 [.ref x, v1, v2, v3] (.ref x :: st) σ τ := rr_aload_n dX10_tryLaw_57 rfl
theorem r120_58 (d : Nat) (ls st : List Value) (σ : am_St) (τ : Int64) (k : Nat) : am_run d 120 58 ls (.ref k :: st) σ τ = am_gf k 10 26 σ τ (fun v => am_run d 120 61 ls (v :: st) σ τ) := rr_getf dX10_tryLaw_58 (by decide +kernel)
theorem r120_61 (d : Nat) (ls st : List Value) (σ : am_St) (τ : Int64) : am_run d 120 61 ls st σ τ = am_run d 120 62 ls (.int 2 :: st) σ τ := rr_iconst 2 dX10_tryLaw_61 (by decide)
theorem r120_62 (d : Nat) (st : List Value) (σ : am_St) (τ : Int64) (x : Nat) (v1 v2 v3 : Value) : am_run d 120 62 [.ref x, v1, v2, v3] st σ τ = am_run d 120 63 [.ref x, v1, v2, v3] (.ref x :: st) σ τ := rr_aload_n dX10_tryLaw_62 rfl
theorem r120_63 (d : Nat) (ls st : List Value) (σ : am_St) (τ : Int64) (k : Nat) : am_run d 120 63 ls (.ref k :: st) σ τ = am_gf k 10 26 σ τ (fun v => am_run d 120 66 ls (v :: st) σ τ) := rr_getf dX10_tryLaw_63 (by decide +kernel)
theorem r120_66 (d : Nat) (ls st : List Value) (σ : am_St) (τ : Int64) : am_run d 120 66 ls st σ τ = am_run d 120 67 ls (.int 0 :: st) σ τ := rr_iconst 0 dX10_tryLaw_66 (by decide)
theorem r120_67 (d : Nat) (ls st : List Value) (σ : am_St) (τ : Int64) (i : Int32) (k : Nat) : am_run d 120 67 ls (.int i :: .ref k :: st) σ τ = am_ai false k i (fun j => am_run d 120 68 ls (.int (σ k j) :: st) σ τ) := rr_iald dX10_tryLaw_67
theorem r120_68 (d : Nat) (ls st : List Value) (σ : am_St) (τ : Int64) (x : Int32) : am_run d 120 68 ls (.int x :: st) σ τ = if x = 0 then am_run d 120 71 ls st σ τ else am_run d 120 75 ls st σ τ := (rr_if 75 dX10_tryLaw_68 (by decide)).trans am_seln
theorem r120_71 (d : Nat) (st : List Value) (σ : am_St) (τ : Int64) (x : Int32) (v0 v1 v3 : Value) : am_run d 120 71 [v0, v1, .int x, v3] st σ τ = am_run d 120 72 [v0, v1, .int x, v3] (.int x :: st) σ τ := rr_iload_n dX10_tryLaw_71 rfl
theorem r120_72 (d : Nat) (ls st : List Value) (σ : am_St) (τ : Int64) : am_run d 120 72 ls st σ τ = am_run d 120 81 ls st σ τ := rr_goto 81 dX10_tryLaw_72 (by decide)
theorem r120_75 (d : Nat) (st : List Value) (σ : am_St) (τ : Int64) (x : Nat) (v1 v2 v3 : Value) : am_run d 120 75 [.ref x, v1, v2, v3] st σ τ = am_run d 120 76 [.ref x, v1, v2, v3] (.ref x :: st) σ τ := rr_aload_n dX10_tryLaw_75 rfl
theorem r120_76 (d : Nat) (ls st : List Value) (σ : am_St) (τ : Int64) (k : Nat) : am_run d 120 76 ls (.ref k :: st) σ τ = am_gf k 10 26 σ τ (fun v => am_run d 120 79 ls (v :: st) σ τ) := rr_getf dX10_tryLaw_76 (by decide +kernel)
theorem r120_79 (d : Nat) (ls st : List Value) (σ : am_St) (τ : Int64) : am_run d 120 79 ls st σ τ = am_run d 120 80 ls (.int 2 :: st) σ τ := rr_iconst 2 dX10_tryLaw_79 (by decide)
theorem r120_80 (d : Nat) (ls st : List Value) (σ : am_St) (τ : Int64) (i : Int32) (k : Nat) : am_run d 120 80 ls (.int i :: .ref k :: st) σ τ = am_ai false k i (fun j => am_run d 120 81 ls (.int (σ k j) :: st) σ τ) := rr_iald dX10_tryLaw_80
theorem r120_81 (d : Nat) (ls st : List Value) (σ : am_St) (τ : Int64) (x i : Int32) (k : Nat) : am_run d 120 81 ls (.int x :: .int i :: .ref k :: st) σ τ = am_ai false k i (fun j => am_run d 120 82 ls st (am_up σ k j x) τ) := rr_iast dX10_tryLaw_81
theorem r120_82 (d : Nat) (st : List Value) (σ : am_St) (τ : Int64) (x : Nat) (v1 v2 v3 : Value) : am_run d 120 82 [.ref x, v1, v2, v3] st σ τ = am_run d 120 83 [.ref x, v1, v2, v3] (.ref x :: st) σ τ := rr_aload_n dX10_tryLaw_82 rfl
theorem r120_83 (d : Nat) (ls st : List Value) (σ : am_St) (τ : Int64) (k : Nat) : am_run d 120 83 ls (.ref k :: st) σ τ = am_gf k 10 26 σ τ (fun v => am_run d 120 86 ls (v :: st) σ τ) := rr_getf dX10_tryLaw_83 (by decide +kernel)
theorem r120_86 (d : Nat) (ls st : List Value) (σ : am_St) (τ : Int64) : am_run d 120 86 ls st σ τ = am_run d 120 87 ls (.int 3 :: st) σ τ := rr_iconst 3 dX10_tryLaw_86 (by decide)
theorem r120_87 (d : Nat) (st : List Value) (σ : am_St) (τ : Int64) (x : Nat) (v1 v2 v3 : Value) : am_run d 120 87 [.ref x, v1, v2, v3] st σ τ = am_run d 120 88 [.ref x, v1, v2, v3] (.ref x :: st) σ τ := rr_aload_n dX10_tryLaw_87 rfl
theorem r120_88 (d : Nat) (ls st : List Value) (σ : am_St) (τ : Int64) (k : Nat) : am_run d 120 88 ls (.ref k :: st) σ τ = am_gf k 10 26 σ τ (fun v => am_run d 120 91 ls (v :: st) σ τ) := rr_getf dX10_tryLaw_88 (by decide +kernel)
theorem r120_91 (d : Nat) (ls st : List Value) (σ : am_St) (τ : Int64) : am_run d 120 91 ls st σ τ = am_run d 120 92 ls (.int 0 :: st) σ τ := rr_iconst 0 dX10_tryLaw_91 (by decide)
theorem r120_92 (d : Nat) (ls st : List Value) (σ : am_St) (τ : Int64) (i : Int32) (k : Nat) : am_run d 120 92 ls (.int i :: .ref k :: st) σ τ = am_ai false k i (fun j => am_run d 120 93 ls (.int (σ k j) :: st) σ τ) := rr_iald dX10_tryLaw_92
theorem r120_93 (d : Nat) (ls st : List Value) (σ : am_St) (τ : Int64) (x : Int32) : am_run d 120 93 ls (.int x :: st) σ τ = if x = 0 then am_run d 120 96 ls st σ τ else am_run d 120 100 ls st σ τ := (rr_if 100 dX10_tryLaw_93 (by decide)).trans am_seln
theorem r120_96 (d : Nat) (st : List Value) (σ : am_St) (τ : Int64) (x : Int32) (v0 v1 v2 : Value) : am_run d 120 96 [v0, v1, v2, .int x] st σ τ = am_run d 120 97 [v0, v1, v2, .int x] (.int x :: st) σ τ := rr_iload_n dX10_tryLaw_96 rfl
theorem r120_97 (d : Nat) (ls st : List Value) (σ : am_St) (τ : Int64) : am_run d 120 97 ls st σ τ = am_run d 120 106 ls st σ τ := rr_goto 106 dX10_tryLaw_97 (by decide)
theorem r120_100 (d : Nat) (st : List Value) (σ : am_St) (τ : Int64) (x : Nat) (v1 v2 v3 : Value) : am_run d 120 100 [.ref x, v1, v2, v3] st σ τ = am_run d 120 101 [.ref x, v1, v2, v3] (.ref x :: st) σ τ := rr_aload_n dX10_tryLaw_100 rfl
theorem r120_101 (d : Nat) (ls st : List Value) (σ : am_St) (τ : Int64) (k : Nat) : am_run d 120 101 ls (.ref k :: st) σ τ = am_gf k 10 26 σ τ (fun v => am_run d 120 104 ls (v :: st) σ τ) := rr_getf dX10_tryLaw_101 (by decide +kernel)
theorem r120_104 (d : Nat) (ls st : List Value) (σ : am_St) (τ : Int64) : am_run d 120 104 ls st σ τ = am_run d 120 105 ls (.int 3 :: st) σ τ := rr_iconst 3 dX10_tryLaw_104 (by decide)
theorem r120_105 (d : Nat) (ls st : List Value) (σ : am_St) (τ : Int64) (i : Int32) (k : Nat) : am_run d 120 105 ls (.int i :: .ref k :: st) σ τ = am_ai false k i (fun j => am_run d 120 106 ls (.int (σ k j) :: st) σ τ) := rr_iald dX10_tryLaw_105
theorem r120_106 (d : Nat) (ls st : List Value) (σ : am_St) (τ : Int64) (x i : Int32) (k : Nat) : am_run d 120 106 ls (.int x :: .int i :: .ref k :: st) σ τ = am_ai false k i (fun j => am_run d 120 107 ls st (am_up σ k j x) τ) := rr_iast dX10_tryLaw_106
theorem r120_107 (d : Nat) (st : List Value) (σ : am_St) (τ : Int64) (x : Nat) (v1 v2 v3 : Value) : am_run d 120 107 [.ref x, v1, v2, v3] st σ τ = am_run d 120 108 [.ref x, v1, v2, v3] (.ref x :: st) σ τ := rr_aload_n dX10_tryLaw_107 rfl
theorem r120_108 (d : Nat) (ls st : List Value) (σ : am_St) (τ : Int64) (k : Nat) : am_run d 120 108 ls (.ref k :: st) σ τ = am_gf k 10 26 σ τ (fun v => am_run d 120 111 ls (v :: st) σ τ) := rr_getf dX10_tryLaw_108 (by decide +kernel)
theorem r120_111 (d : Nat) (ls st : List Value) (σ : am_St) (τ : Int64) : am_run d 120 111 ls st σ τ = am_run d 120 112 ls (.int 0 :: st) σ τ := rr_iconst 0 dX10_tryLaw_111 (by decide)
theorem r120_112 (d : Nat) (ls st : List Value) (σ : am_St) (τ : Int64) (x : Int32) (y : Nat) : am_run d 120 112 ls (.int x :: .ref y :: st) σ τ = am_run d 120 113 ls (.int x :: .ref y :: .int x :: .ref y :: st) σ τ := rr_dup2 dX10_tryLaw_112
theorem r120_113 (d : Nat) (ls st : List Value) (σ : am_St) (τ : Int64) (i : Int32) (k : Nat) : am_run d 120 113 ls (.int i :: .ref k :: st) σ τ = am_ai false k i (fun j => am_run d 120 114 ls (.int (σ k j) :: st) σ τ) := rr_iald dX10_tryLaw_113
theorem r120_114 (d : Nat) (ls st : List Value) (σ : am_St) (τ : Int64) : am_run d 120 114 ls st σ τ = am_run d 120 115 ls (.int 1 :: st) σ τ := rr_iconst 1 dX10_tryLaw_114 (by decide)
theorem r120_115 (d : Nat) (ls st : List Value) (σ : am_St) (τ : Int64) (x y : Int32) : am_run d 120 115 ls (.int y :: .int x :: st) σ τ = am_run d 120 116 ls (.int (x + y) :: st) σ τ := rr_iadd dX10_tryLaw_115
theorem r120_116 (d : Nat) (ls st : List Value) (σ : am_St) (τ : Int64) (x i : Int32) (k : Nat) : am_run d 120 116 ls (.int x :: .int i :: .ref k :: st) σ τ = am_ai false k i (fun j => am_run d 120 117 ls st (am_up σ k j x) τ) := rr_iast dX10_tryLaw_116
theorem r120_117 (d : Nat) (ls : List Value) (σ : am_St) (τ : Int64) : am_run d 120 117 ls [] σ τ = some (none, σ, τ) := rr_vret dX10_tryLaw_117 rfl
theorem dX10_layLaws_0 : decode (am_code 121) 0 = .ok (.aload_n 0, 1) := by decide +kernel
theorem dX10_layLaws_1 : decode (am_code 121) 1 = .ok (.invokevirtual 162, 3) := by decide +kernel
theorem dX10_layLaws_4 : decode (am_code 121) 4 = .ok (.aload_n 0, 1) := by decide +kernel
theorem dX10_layLaws_5 : decode (am_code 121) 5 = .ok (.getfield 70, 3) := by decide +kernel
theorem dX10_layLaws_8 : decode (am_code 121) 8 = .ok (.iconst 0, 1) := by decide +kernel
theorem dX10_layLaws_9 : decode (am_code 121) 9 = .ok (.iconst 0, 1) := by decide +kernel
theorem dX10_layLaws_10 : decode (am_code 121) 10 = .ok (.iastore, 1) := by decide +kernel
theorem dX10_layLaws_11 : decode (am_code 121) 11 = .ok (.iconst 1, 1) := by decide +kernel
theorem dX10_layLaws_12 : decode (am_code 121) 12 = .ok (.istore_n 1, 1) := by decide +kernel
theorem dX10_layLaws_13 : decode (am_code 121) 13 = .ok (.iload_n 1, 1) := by decide +kernel
theorem dX10_layLaws_14 : decode (am_code 121) 14 = .ok (.iconst 4, 1) := by decide +kernel
theorem dX10_layLaws_15 : decode (am_code 121) 15 = .ok (.if_icmp .ge 16, 3) := by decide +kernel
theorem dX10_layLaws_18 : decode (am_code 121) 18 = .ok (.aload_n 0, 1) := by decide +kernel
theorem dX10_layLaws_19 : decode (am_code 121) 19 = .ok (.getfield 70, 3) := by decide +kernel
theorem dX10_layLaws_22 : decode (am_code 121) 22 = .ok (.iload_n 1, 1) := by decide +kernel
theorem dX10_layLaws_23 : decode (am_code 121) 23 = .ok (.iconst (-1), 1) := by decide +kernel
theorem dX10_layLaws_24 : decode (am_code 121) 24 = .ok (.iastore, 1) := by decide +kernel
theorem dX10_layLaws_25 : decode (am_code 121) 25 = .ok (.iinc 1 1, 3) := by decide +kernel
theorem dX10_layLaws_28 : decode (am_code 121) 28 = .ok (.goto (-15), 3) := by decide +kernel
theorem dX10_layLaws_31 : decode (am_code 121) 31 = .ok (.iconst 0, 1) := by decide +kernel
theorem dX10_layLaws_32 : decode (am_code 121) 32 = .ok (.istore_n 1, 1) := by decide +kernel
theorem dX10_layLaws_33 : decode (am_code 121) 33 = .ok (.iload_n 1, 1) := by decide +kernel
theorem dX10_layLaws_34 : decode (am_code 121) 34 = .ok (.iconst 4, 1) := by decide +kernel
theorem dX10_layLaws_35 : decode (am_code 121) 35 = .ok (.if_icmp .ge 16, 3) := by decide +kernel
theorem dX10_layLaws_38 : decode (am_code 121) 38 = .ok (.aload_n 0, 1) := by decide +kernel
theorem dX10_layLaws_39 : decode (am_code 121) 39 = .ok (.iload_n 1, 1) := by decide +kernel
theorem dX10_layLaws_40 : decode (am_code 121) 40 = .ok (.iconst 0, 1) := by decide +kernel
theorem dX10_layLaws_41 : decode (am_code 121) 41 = .ok (.iconst (-1), 1) := by decide +kernel
theorem dX10_layLaws_42 : decode (am_code 121) 42 = .ok (.invokevirtual 204, 3) := by decide +kernel
theorem dX10_layLaws_45 : decode (am_code 121) 45 = .ok (.iinc 1 1, 3) := by decide +kernel
theorem dX10_layLaws_48 : decode (am_code 121) 48 = .ok (.goto (-15), 3) := by decide +kernel
theorem dX10_layLaws_51 : decode (am_code 121) 51 = .ok (.iconst 0, 1) := by decide +kernel
theorem dX10_layLaws_52 : decode (am_code 121) 52 = .ok (.istore_n 1, 1) := by decide +kernel
theorem dX10_layLaws_53 : decode (am_code 121) 53 = .ok (.iload_n 1, 1) := by decide +kernel
theorem dX10_layLaws_54 : decode (am_code 121) 54 = .ok (.iconst 4, 1) := by decide +kernel
theorem dX10_layLaws_55 : decode (am_code 121) 55 = .ok (.if_icmp .ge 43, 3) := by decide +kernel
theorem dX10_layLaws_58 : decode (am_code 121) 58 = .ok (.iconst 2, 1) := by decide +kernel
theorem dX10_layLaws_59 : decode (am_code 121) 59 = .ok (.istore_n 2, 1) := by decide +kernel
theorem dX10_layLaws_60 : decode (am_code 121) 60 = .ok (.iload_n 2, 1) := by decide +kernel
theorem dX10_layLaws_61 : decode (am_code 121) 61 = .ok (.bipush 6, 2) := by decide +kernel
theorem dX10_layLaws_63 : decode (am_code 121) 63 = .ok (.if_icmp .ge 29, 3) := by decide +kernel
theorem dX10_layLaws_66 : decode (am_code 121) 66 = .ok (.iconst 0, 1) := by decide +kernel
theorem dX10_layLaws_67 : decode (am_code 121) 67 = .ok (.istore_n 3, 1) := by decide +kernel
theorem dX10_layLaws_68 : decode (am_code 121) 68 = .ok (.iload_n 3, 1) := by decide +kernel
theorem dX10_layLaws_69 : decode (am_code 121) 69 = .ok (.iconst 4, 1) := by decide +kernel
theorem dX10_layLaws_70 : decode (am_code 121) 70 = .ok (.if_icmp .ge 16, 3) := by decide +kernel
theorem dX10_layLaws_73 : decode (am_code 121) 73 = .ok (.aload_n 0, 1) := by decide +kernel
theorem dX10_layLaws_74 : decode (am_code 121) 74 = .ok (.iload_n 1, 1) := by decide +kernel
theorem dX10_layLaws_75 : decode (am_code 121) 75 = .ok (.iload_n 2, 1) := by decide +kernel
theorem dX10_layLaws_76 : decode (am_code 121) 76 = .ok (.iload_n 3, 1) := by decide +kernel
theorem dX10_layLaws_77 : decode (am_code 121) 77 = .ok (.invokevirtual 204, 3) := by decide +kernel
theorem dX10_layLaws_80 : decode (am_code 121) 80 = .ok (.iinc 3 1, 3) := by decide +kernel
theorem dX10_layLaws_83 : decode (am_code 121) 83 = .ok (.goto (-15), 3) := by decide +kernel
theorem dX10_layLaws_86 : decode (am_code 121) 86 = .ok (.iinc 2 1, 3) := by decide +kernel
theorem dX10_layLaws_89 : decode (am_code 121) 89 = .ok (.goto (-29), 3) := by decide +kernel
theorem dX10_layLaws_92 : decode (am_code 121) 92 = .ok (.iinc 1 1, 3) := by decide +kernel
theorem dX10_layLaws_95 : decode (am_code 121) 95 = .ok (.goto (-42), 3) := by decide +kernel
theorem dX10_layLaws_98 : decode (am_code 121) 98 = .ok (.return_, 1) := by decide +kernel
theorem r121_0 (d : Nat) (st : List Value) (σ : am_St) (τ : Int64) (x : Nat) (v1 v2 v3 : Value) : am_run d 121 0 [.ref x, v1, v2, v3] st σ τ = am_run d 121 1 [.ref x, v1, v2, v3] (.ref x :: st) σ τ := rr_aload_n dX10_layLaws_0 rfl
theorem r121_1 (d : Nat) (ls st : List Value) (σ : am_St) (τ : Int64) (k : Nat)  (hk : am_kc k = 10) (hc : am_cats st ≤ 8) : am_run (d + 1) 121 1 ls (.ref k :: st) σ τ = (am_call d 100 [.ref k] σ τ).bind (fun r => am_run (d + 1) 121 4 ls (r.1.toList ++ st) r.2.1 r.2.2) := rr_invv [] dX10_layLaws_1 (by decide +kernel) (by decide) rfl (Nat.le_of_ble_eq_true rfl) hk hc
theorem r121_4 (d : Nat) (st : List Value) (σ : am_St) (τ : Int64) (x : Nat) (v1 v2 v3 : Value) : am_run d 121 4 [.ref x, v1, v2, v3] st σ τ = am_run d 121 5 [.ref x, v1, v2, v3] (.ref x :: st) σ τ := rr_aload_n dX10_layLaws_4 rfl
theorem r121_5 (d : Nat) (ls st : List Value) (σ : am_St) (τ : Int64) (k : Nat) : am_run d 121 5 ls (.ref k :: st) σ τ = am_gf k 10 26 σ τ (fun v => am_run d 121 8 ls (v :: st) σ τ) := rr_getf dX10_layLaws_5 (by decide +kernel)
theorem r121_8 (d : Nat) (ls st : List Value) (σ : am_St) (τ : Int64) : am_run d 121 8 ls st σ τ = am_run d 121 9 ls (.int 0 :: st) σ τ := rr_iconst 0 dX10_layLaws_8 (by decide)
theorem r121_9 (d : Nat) (ls st : List Value) (σ : am_St) (τ : Int64) : am_run d 121 9 ls st σ τ = am_run d 121 10 ls (.int 0 :: st) σ τ := rr_iconst 0 dX10_layLaws_9 (by decide)
theorem r121_10 (d : Nat) (ls st : List Value) (σ : am_St) (τ : Int64) (x i : Int32) (k : Nat) : am_run d 121 10 ls (.int x :: .int i :: .ref k :: st) σ τ = am_ai false k i (fun j => am_run d 121 11 ls st (am_up σ k j x) τ) := rr_iast dX10_layLaws_10
theorem r121_11 (d : Nat) (ls st : List Value) (σ : am_St) (τ : Int64) : am_run d 121 11 ls st σ τ = am_run d 121 12 ls (.int 1 :: st) σ τ := rr_iconst 1 dX10_layLaws_11 (by decide)
theorem r121_12 (d : Nat) (st : List Value) (σ : am_St) (τ : Int64) (x : Int32) (v0 v1 v2 v3 : Value) : am_run d 121 12 [v0, v1, v2, v3] (.int x :: st) σ τ = am_run d 121 13 [am_nl v0, .int x, v2, v3] st σ τ := rr_istore_n _ dX10_layLaws_12 (by decide) (by first | rfl | (by_cases h : v0.category = 2 <;> simp [am_set1, am_nl, h]))
theorem r121_13 (d : Nat) (st : List Value) (σ : am_St) (τ : Int64) (x : Int32) (v0 v2 v3 : Value) : am_run d 121 13 [v0, .int x, v2, v3] st σ τ = am_run d 121 14 [v0, .int x, v2, v3] (.int x :: st) σ τ := rr_iload_n dX10_layLaws_13 rfl
theorem r121_14 (d : Nat) (ls st : List Value) (σ : am_St) (τ : Int64) : am_run d 121 14 ls st σ τ = am_run d 121 15 ls (.int 4 :: st) σ τ := rr_iconst 4 dX10_layLaws_14 (by decide)
theorem r121_15 (d : Nat) (ls st : List Value) (σ : am_St) (τ : Int64) (x y : Int32) : am_run d 121 15 ls (.int y :: .int x :: st) σ τ = if y ≤ x then am_run d 121 31 ls st σ τ else am_run d 121 18 ls st σ τ := (rr_icmp 31 dX10_layLaws_15 (by decide)).trans am_sel
theorem r121_18 (d : Nat) (st : List Value) (σ : am_St) (τ : Int64) (x : Nat) (v1 v2 v3 : Value) : am_run d 121 18 [.ref x, v1, v2, v3] st σ τ = am_run d 121 19 [.ref x, v1, v2, v3] (.ref x :: st) σ τ := rr_aload_n dX10_layLaws_18 rfl
theorem r121_19 (d : Nat) (ls st : List Value) (σ : am_St) (τ : Int64) (k : Nat) : am_run d 121 19 ls (.ref k :: st) σ τ = am_gf k 10 26 σ τ (fun v => am_run d 121 22 ls (v :: st) σ τ) := rr_getf dX10_layLaws_19 (by decide +kernel)
theorem r121_22 (d : Nat) (st : List Value) (σ : am_St) (τ : Int64) (x : Int32) (v0 v2 v3 : Value) : am_run d 121 22 [v0, .int x, v2, v3] st σ τ = am_run d 121 23 [v0, .int x, v2, v3] (.int x :: st) σ τ := rr_iload_n dX10_layLaws_22 rfl
theorem r121_23 (d : Nat) (ls st : List Value) (σ : am_St) (τ : Int64) : am_run d 121 23 ls st σ τ = am_run d 121 24 ls (.int (-1) :: st) σ τ := rr_iconst (-1) dX10_layLaws_23 (by decide)
theorem r121_24 (d : Nat) (ls st : List Value) (σ : am_St) (τ : Int64) (x i : Int32) (k : Nat) : am_run d 121 24 ls (.int x :: .int i :: .ref k :: st) σ τ = am_ai false k i (fun j => am_run d 121 25 ls st (am_up σ k j x) τ) := rr_iast dX10_layLaws_24
theorem r121_25 (d : Nat) (st : List Value) (σ : am_St) (τ : Int64) (x : Int32) (v0 v2 v3 : Value) : am_run d 121 25 [v0, .int x, v2, v3] st σ τ = am_run d 121 28 [am_nl v0, .int (x + 1), v2, v3] st σ τ := rr_iinc 1 _ dX10_layLaws_25 rfl (by decide) (by decide) (by first | rfl | (by_cases h : v0.category = 2 <;> simp [am_set1, am_nl, h]))
theorem r121_28 (d : Nat) (ls st : List Value) (σ : am_St) (τ : Int64) : am_run d 121 28 ls st σ τ = am_run d 121 13 ls st σ τ := rr_goto 13 dX10_layLaws_28 (by decide)
theorem r121_31 (d : Nat) (ls st : List Value) (σ : am_St) (τ : Int64) : am_run d 121 31 ls st σ τ = am_run d 121 32 ls (.int 0 :: st) σ τ := rr_iconst 0 dX10_layLaws_31 (by decide)
theorem r121_32 (d : Nat) (st : List Value) (σ : am_St) (τ : Int64) (x : Int32) (v0 v1 v2 v3 : Value) : am_run d 121 32 [v0, v1, v2, v3] (.int x :: st) σ τ = am_run d 121 33 [am_nl v0, .int x, v2, v3] st σ τ := rr_istore_n _ dX10_layLaws_32 (by decide) (by first | rfl | (by_cases h : v0.category = 2 <;> simp [am_set1, am_nl, h]))
theorem r121_33 (d : Nat) (st : List Value) (σ : am_St) (τ : Int64) (x : Int32) (v0 v2 v3 : Value) : am_run d 121 33 [v0, .int x, v2, v3] st σ τ = am_run d 121 34 [v0, .int x, v2, v3] (.int x :: st) σ τ := rr_iload_n dX10_layLaws_33 rfl
theorem r121_34 (d : Nat) (ls st : List Value) (σ : am_St) (τ : Int64) : am_run d 121 34 ls st σ τ = am_run d 121 35 ls (.int 4 :: st) σ τ := rr_iconst 4 dX10_layLaws_34 (by decide)
theorem r121_35 (d : Nat) (ls st : List Value) (σ : am_St) (τ : Int64) (x y : Int32) : am_run d 121 35 ls (.int y :: .int x :: st) σ τ = if y ≤ x then am_run d 121 51 ls st σ τ else am_run d 121 38 ls st σ τ := (rr_icmp 51 dX10_layLaws_35 (by decide)).trans am_sel
theorem r121_38 (d : Nat) (st : List Value) (σ : am_St) (τ : Int64) (x : Nat) (v1 v2 v3 : Value) : am_run d 121 38 [.ref x, v1, v2, v3] st σ τ = am_run d 121 39 [.ref x, v1, v2, v3] (.ref x :: st) σ τ := rr_aload_n dX10_layLaws_38 rfl
theorem r121_39 (d : Nat) (st : List Value) (σ : am_St) (τ : Int64) (x : Int32) (v0 v2 v3 : Value) : am_run d 121 39 [v0, .int x, v2, v3] st σ τ = am_run d 121 40 [v0, .int x, v2, v3] (.int x :: st) σ τ := rr_iload_n dX10_layLaws_39 rfl
theorem r121_40 (d : Nat) (ls st : List Value) (σ : am_St) (τ : Int64) : am_run d 121 40 ls st σ τ = am_run d 121 41 ls (.int 0 :: st) σ τ := rr_iconst 0 dX10_layLaws_40 (by decide)
theorem r121_41 (d : Nat) (ls st : List Value) (σ : am_St) (τ : Int64) : am_run d 121 41 ls st σ τ = am_run d 121 42 ls (.int (-1) :: st) σ τ := rr_iconst (-1) dX10_layLaws_41 (by decide)
theorem r121_42 (d : Nat) (ls st : List Value) (σ : am_St) (τ : Int64) (k : Nat) (a0 : Int32) (a1 : Int32) (a2 : Int32) (hk : am_kc k = 10) (hc : am_cats st ≤ 8) : am_run (d + 1) 121 42 ls (.int a2 :: .int a1 :: .int a0 :: .ref k :: st) σ τ = (am_call d 120 [.ref k, .int a0, .int a1, .int a2] σ τ).bind (fun r => am_run (d + 1) 121 45 ls (r.1.toList ++ st) r.2.1 r.2.2) := rr_invv [.int a0, .int a1, .int a2] dX10_layLaws_42 (by decide +kernel) (by decide) rfl (Nat.le_of_ble_eq_true rfl) hk hc
theorem r121_45 (d : Nat) (st : List Value) (σ : am_St) (τ : Int64) (x : Int32) (v0 v2 v3 : Value) : am_run d 121 45 [v0, .int x, v2, v3] st σ τ = am_run d 121 48 [am_nl v0, .int (x + 1), v2, v3] st σ τ := rr_iinc 1 _ dX10_layLaws_45 rfl (by decide) (by decide) (by first | rfl | (by_cases h : v0.category = 2 <;> simp [am_set1, am_nl, h]))
theorem r121_48 (d : Nat) (ls st : List Value) (σ : am_St) (τ : Int64) : am_run d 121 48 ls st σ τ = am_run d 121 33 ls st σ τ := rr_goto 33 dX10_layLaws_48 (by decide)
theorem r121_51 (d : Nat) (ls st : List Value) (σ : am_St) (τ : Int64) : am_run d 121 51 ls st σ τ = am_run d 121 52 ls (.int 0 :: st) σ τ := rr_iconst 0 dX10_layLaws_51 (by decide)
theorem r121_52 (d : Nat) (st : List Value) (σ : am_St) (τ : Int64) (x : Int32) (v0 v1 v2 v3 : Value) : am_run d 121 52 [v0, v1, v2, v3] (.int x :: st) σ τ = am_run d 121 53 [am_nl v0, .int x, v2, v3] st σ τ := rr_istore_n _ dX10_layLaws_52 (by decide) (by first | rfl | (by_cases h : v0.category = 2 <;> simp [am_set1, am_nl, h]))
theorem r121_53 (d : Nat) (st : List Value) (σ : am_St) (τ : Int64) (x : Int32) (v0 v2 v3 : Value) : am_run d 121 53 [v0, .int x, v2, v3] st σ τ = am_run d 121 54 [v0, .int x, v2, v3] (.int x :: st) σ τ := rr_iload_n dX10_layLaws_53 rfl
theorem r121_54 (d : Nat) (ls st : List Value) (σ : am_St) (τ : Int64) : am_run d 121 54 ls st σ τ = am_run d 121 55 ls (.int 4 :: st) σ τ := rr_iconst 4 dX10_layLaws_54 (by decide)
theorem r121_55 (d : Nat) (ls st : List Value) (σ : am_St) (τ : Int64) (x y : Int32) : am_run d 121 55 ls (.int y :: .int x :: st) σ τ = if y ≤ x then am_run d 121 98 ls st σ τ else am_run d 121 58 ls st σ τ := (rr_icmp 98 dX10_layLaws_55 (by decide)).trans am_sel
theorem r121_58 (d : Nat) (ls st : List Value) (σ : am_St) (τ : Int64) : am_run d 121 58 ls st σ τ = am_run d 121 59 ls (.int 2 :: st) σ τ := rr_iconst 2 dX10_layLaws_58 (by decide)
theorem r121_59 (d : Nat) (st : List Value) (σ : am_St) (τ : Int64) (x : Int32) (v0 v1 v2 v3 : Value) : am_run d 121 59 [v0, v1, v2, v3] (.int x :: st) σ τ = am_run d 121 60 [v0, am_nl v1, .int x, v3] st σ τ := rr_istore_n _ dX10_layLaws_59 (by decide) (by first | rfl | (by_cases h : v1.category = 2 <;> simp [am_set1, am_nl, h]))
theorem r121_60 (d : Nat) (st : List Value) (σ : am_St) (τ : Int64) (x : Int32) (v0 v1 v3 : Value) : am_run d 121 60 [v0, v1, .int x, v3] st σ τ = am_run d 121 61 [v0, v1, .int x, v3] (.int x :: st) σ τ := rr_iload_n dX10_layLaws_60 rfl
theorem r121_61 (d : Nat) (ls st : List Value) (σ : am_St) (τ : Int64) : am_run d 121 61 ls st σ τ = am_run d 121 63 ls (.int 6 :: st) σ τ := rr_bipush 6 dX10_layLaws_61 (by decide)
theorem r121_63 (d : Nat) (ls st : List Value) (σ : am_St) (τ : Int64) (x y : Int32) : am_run d 121 63 ls (.int y :: .int x :: st) σ τ = if y ≤ x then am_run d 121 92 ls st σ τ else am_run d 121 66 ls st σ τ := (rr_icmp 92 dX10_layLaws_63 (by decide)).trans am_sel
theorem r121_66 (d : Nat) (ls st : List Value) (σ : am_St) (τ : Int64) : am_run d 121 66 ls st σ τ = am_run d 121 67 ls (.int 0 :: st) σ τ := rr_iconst 0 dX10_layLaws_66 (by decide)
theorem r121_67 (d : Nat) (st : List Value) (σ : am_St) (τ : Int64) (x : Int32) (v0 v1 v2 v3 : Value) : am_run d 121 67 [v0, v1, v2, v3] (.int x :: st) σ τ = am_run d 121 68 [v0, v1, am_nl v2, .int x] st σ τ := rr_istore_n _ dX10_layLaws_67 (by decide) (by first | rfl | (by_cases h : v2.category = 2 <;> simp [am_set1, am_nl, h]))
theorem r121_68 (d : Nat) (st : List Value) (σ : am_St) (τ : Int64) (x : Int32) (v0 v1 v2 : Value) : am_run d 121 68 [v0, v1, v2, .int x] st σ τ = am_run d 121 69 [v0, v1, v2, .int x] (.int x :: st) σ τ := rr_iload_n dX10_layLaws_68 rfl
theorem r121_69 (d : Nat) (ls st : List Value) (σ : am_St) (τ : Int64) : am_run d 121 69 ls st σ τ = am_run d 121 70 ls (.int 4 :: st) σ τ := rr_iconst 4 dX10_layLaws_69 (by decide)
theorem r121_70 (d : Nat) (ls st : List Value) (σ : am_St) (τ : Int64) (x y : Int32) : am_run d 121 70 ls (.int y :: .int x :: st) σ τ = if y ≤ x then am_run d 121 86 ls st σ τ else am_run d 121 73 ls st σ τ := (rr_icmp 86 dX10_layLaws_70 (by decide)).trans am_sel
theorem r121_73 (d : Nat) (st : List Value) (σ : am_St) (τ : Int64) (x : Nat) (v1 v2 v3 : Value) : am_run d 121 73 [.ref x, v1, v2, v3] st σ τ = am_run d 121 74 [.ref x, v1, v2, v3] (.ref x :: st) σ τ := rr_aload_n dX10_layLaws_73 rfl
theorem r121_74 (d : Nat) (st : List Value) (σ : am_St) (τ : Int64) (x : Int32) (v0 v2 v3 : Value) : am_run d 121 74 [v0, .int x, v2, v3] st σ τ = am_run d 121 75 [v0, .int x, v2, v3] (.int x :: st) σ τ := rr_iload_n dX10_layLaws_74 rfl
theorem r121_75 (d : Nat) (st : List Value) (σ : am_St) (τ : Int64) (x : Int32) (v0 v1 v3 : Value) : am_run d 121 75 [v0, v1, .int x, v3] st σ τ = am_run d 121 76 [v0, v1, .int x, v3] (.int x :: st) σ τ := rr_iload_n dX10_layLaws_75 rfl
theorem r121_76 (d : Nat) (st : List Value) (σ : am_St) (τ : Int64) (x : Int32) (v0 v1 v2 : Value) : am_run d 121 76 [v0, v1, v2, .int x] st σ τ = am_run d 121 77 [v0, v1, v2, .int x] (.int x :: st) σ τ := rr_iload_n dX10_layLaws_76 rfl
theorem r121_77 (d : Nat) (ls st : List Value) (σ : am_St) (τ : Int64) (k : Nat) (a0 : Int32) (a1 : Int32) (a2 : Int32) (hk : am_kc k = 10) (hc : am_cats st ≤ 8) : am_run (d + 1) 121 77 ls (.int a2 :: .int a1 :: .int a0 :: .ref k :: st) σ τ = (am_call d 120 [.ref k, .int a0, .int a1, .int a2] σ τ).bind (fun r => am_run (d + 1) 121 80 ls (r.1.toList ++ st) r.2.1 r.2.2) := rr_invv [.int a0, .int a1, .int a2] dX10_layLaws_77 (by decide +kernel) (by decide) rfl (Nat.le_of_ble_eq_true rfl) hk hc
theorem r121_80 (d : Nat) (st : List Value) (σ : am_St) (τ : Int64) (x : Int32) (v0 v1 v2 : Value) : am_run d 121 80 [v0, v1, v2, .int x] st σ τ = am_run d 121 83 [v0, v1, am_nl v2, .int (x + 1)] st σ τ := rr_iinc 1 _ dX10_layLaws_80 rfl (by decide) (by decide) (by first | rfl | (by_cases h : v2.category = 2 <;> simp [am_set1, am_nl, h]))
theorem r121_83 (d : Nat) (ls st : List Value) (σ : am_St) (τ : Int64) : am_run d 121 83 ls st σ τ = am_run d 121 68 ls st σ τ := rr_goto 68 dX10_layLaws_83 (by decide)
theorem r121_86 (d : Nat) (st : List Value) (σ : am_St) (τ : Int64) (x : Int32) (v0 v1 v3 : Value) : am_run d 121 86 [v0, v1, .int x, v3] st σ τ = am_run d 121 89 [v0, am_nl v1, .int (x + 1), v3] st σ τ := rr_iinc 1 _ dX10_layLaws_86 rfl (by decide) (by decide) (by first | rfl | (by_cases h : v1.category = 2 <;> simp [am_set1, am_nl, h]))
theorem r121_89 (d : Nat) (ls st : List Value) (σ : am_St) (τ : Int64) : am_run d 121 89 ls st σ τ = am_run d 121 60 ls st σ τ := rr_goto 60 dX10_layLaws_89 (by decide)
theorem r121_92 (d : Nat) (st : List Value) (σ : am_St) (τ : Int64) (x : Int32) (v0 v2 v3 : Value) : am_run d 121 92 [v0, .int x, v2, v3] st σ τ = am_run d 121 95 [am_nl v0, .int (x + 1), v2, v3] st σ τ := rr_iinc 1 _ dX10_layLaws_92 rfl (by decide) (by decide) (by first | rfl | (by_cases h : v0.category = 2 <;> simp [am_set1, am_nl, h]))
theorem r121_95 (d : Nat) (ls st : List Value) (σ : am_St) (τ : Int64) : am_run d 121 95 ls st σ τ = am_run d 121 53 ls st σ τ := rr_goto 53 dX10_layLaws_95 (by decide)
theorem r121_98 (d : Nat) (ls : List Value) (σ : am_St) (τ : Int64) : am_run d 121 98 ls [] σ τ = some (none, σ, τ) := rr_vret dX10_layLaws_98 rfl
theorem dX10_laws_0 : decode (am_code 122) 0 = .ok (.iload_n 1, 1) := by decide +kernel
theorem dX10_laws_1 : decode (am_code 122) 1 = .ok (.i2l, 1) := by decide +kernel
theorem dX10_laws_2 : decode (am_code 122) 2 = .ok (.lconst 0, 1) := by decide +kernel
theorem dX10_laws_3 : decode (am_code 122) 3 = .ok (.ldc2_w 127, 3) := by decide +kernel
theorem dX10_laws_6 : decode (am_code 122) 6 = .ok (.invokestatic 112, 3) := by decide +kernel
theorem dX10_laws_9 : decode (am_code 122) 9 = .ok (.ifCond .ne 6, 3) := by decide +kernel
theorem dX10_laws_12 : decode (am_code 122) 12 = .ok (.bipush (-102), 2) := by decide +kernel
theorem dX10_laws_14 : decode (am_code 122) 14 = .ok (.ireturn, 1) := by decide +kernel
theorem dX10_laws_15 : decode (am_code 122) 15 = .ok (.aload_n 0, 1) := by decide +kernel
theorem dX10_laws_16 : decode (am_code 122) 16 = .ok (.invokevirtual 208, 3) := by decide +kernel
theorem dX10_laws_19 : decode (am_code 122) 19 = .ok (.aload_n 0, 1) := by decide +kernel
theorem dX10_laws_20 : decode (am_code 122) 20 = .ok (.getfield 70, 3) := by decide +kernel
theorem dX10_laws_23 : decode (am_code 122) 23 = .ok (.iload_n 1, 1) := by decide +kernel
theorem dX10_laws_24 : decode (am_code 122) 24 = .ok (.iaload, 1) := by decide +kernel
theorem dX10_laws_25 : decode (am_code 122) 25 = .ok (.ireturn, 1) := by decide +kernel
theorem r122_0 (d : Nat) (st : List Value) (σ : am_St) (τ : Int64) (x : Int32) (v0 : Value) : am_run d 122 0 [v0, .int x] st σ τ = am_run d 122 1 [v0, .int x] (.int x :: st) σ τ := rr_iload_n dX10_laws_0 rfl
theorem r122_1 (d : Nat) (ls st : List Value) (σ : am_St) (τ : Int64) (x : Int32) : am_run d 122 1 ls (.int x :: st) σ τ = am_run d 122 2 ls (.long x.toInt64 :: st) σ τ := rr_i2l dX10_laws_1
theorem r122_2 (d : Nat) (ls st : List Value) (σ : am_St) (τ : Int64) : am_run d 122 2 ls st σ τ = am_run d 122 3 ls (.long 0 :: st) σ τ := rr_lconst 0 dX10_laws_2 (by decide)
theorem r122_3 (d : Nat) (ls st : List Value) (σ : am_St) (τ : Int64) : am_run d 122 3 ls st σ τ = am_run d 122 6 ls (.long 3 :: st) σ τ := rr_ldc2 3 dX10_laws_3 (by decide +kernel)
theorem r122_6 (d : Nat) (ls st : List Value) (σ : am_St) (τ : Int64) (a0 : Int64) (a1 : Int64) (a2 : Int64) (hc : am_cats st ≤ 8) : am_run (d + 1) 122 6 ls (.long a2 :: .long a1 :: .long a0 :: st) σ τ = (am_call d 82 [.long a0, .long a1, .long a2] σ τ).bind (fun r => am_run (d + 1) 122 9 ls (r.1.toList ++ st) r.2.1 r.2.2) := rr_invs [.long a0, .long a1, .long a2] dX10_laws_6 (by decide +kernel) (by decide +kernel) (by decide) rfl (Nat.le_of_ble_eq_true rfl) hc
theorem r122_9 (d : Nat) (ls st : List Value) (σ : am_St) (τ : Int64) (x : Int32) : am_run d 122 9 ls (.int x :: st) σ τ = if x = 0 then am_run d 122 12 ls st σ τ else am_run d 122 15 ls st σ τ := (rr_if 15 dX10_laws_9 (by decide)).trans am_seln
theorem r122_12 (d : Nat) (ls st : List Value) (σ : am_St) (τ : Int64) : am_run d 122 12 ls st σ τ = am_run d 122 14 ls (.int (-102) :: st) σ τ := rr_bipush (-102) dX10_laws_12 (by decide)
theorem r122_14 (d : Nat) (ls : List Value) (σ : am_St) (τ : Int64) (x : Int32) : am_run d 122 14 ls [.int x] σ τ = some (some (.int x), σ, τ) := rr_iret dX10_laws_14 rfl
theorem r122_15 (d : Nat) (st : List Value) (σ : am_St) (τ : Int64) (x : Nat) (v1 : Value) : am_run d 122 15 [.ref x, v1] st σ τ = am_run d 122 16 [.ref x, v1] (.ref x :: st) σ τ := rr_aload_n dX10_laws_15 rfl
theorem r122_16 (d : Nat) (ls st : List Value) (σ : am_St) (τ : Int64) (k : Nat)  (hk : am_kc k = 10) (hc : am_cats st ≤ 8) : am_run (d + 1) 122 16 ls (.ref k :: st) σ τ = (am_call d 121 [.ref k] σ τ).bind (fun r => am_run (d + 1) 122 19 ls (r.1.toList ++ st) r.2.1 r.2.2) := rr_invv [] dX10_laws_16 (by decide +kernel) (by decide) rfl (Nat.le_of_ble_eq_true rfl) hk hc
theorem r122_19 (d : Nat) (st : List Value) (σ : am_St) (τ : Int64) (x : Nat) (v1 : Value) : am_run d 122 19 [.ref x, v1] st σ τ = am_run d 122 20 [.ref x, v1] (.ref x :: st) σ τ := rr_aload_n dX10_laws_19 rfl
theorem r122_20 (d : Nat) (ls st : List Value) (σ : am_St) (τ : Int64) (k : Nat) : am_run d 122 20 ls (.ref k :: st) σ τ = am_gf k 10 26 σ τ (fun v => am_run d 122 23 ls (v :: st) σ τ) := rr_getf dX10_laws_20 (by decide +kernel)
theorem r122_23 (d : Nat) (st : List Value) (σ : am_St) (τ : Int64) (x : Int32) (v0 : Value) : am_run d 122 23 [v0, .int x] st σ τ = am_run d 122 24 [v0, .int x] (.int x :: st) σ τ := rr_iload_n dX10_laws_23 rfl
theorem r122_24 (d : Nat) (ls st : List Value) (σ : am_St) (τ : Int64) (i : Int32) (k : Nat) : am_run d 122 24 ls (.int i :: .ref k :: st) σ τ = am_ai false k i (fun j => am_run d 122 25 ls (.int (σ k j) :: st) σ τ) := rr_iald dX10_laws_24
theorem r122_25 (d : Nat) (ls : List Value) (σ : am_St) (τ : Int64) (x : Int32) : am_run d 122 25 ls [.int x] σ τ = some (some (.int x), σ, τ) := rr_iret dX10_laws_25 rfl
theorem dX10_laySteps_0 : decode (am_code 123) 0 = .ok (.iconst 0, 1) := by decide +kernel
theorem dX10_laySteps_1 : decode (am_code 123) 1 = .ok (.istore_n 3, 1) := by decide +kernel
theorem dX10_laySteps_2 : decode (am_code 123) 2 = .ok (.iload_n 3, 1) := by decide +kernel
theorem dX10_laySteps_3 : decode (am_code 123) 3 = .ok (.bipush 12, 2) := by decide +kernel
theorem dX10_laySteps_5 : decode (am_code 123) 5 = .ok (.if_icmp .ge 24, 3) := by decide +kernel
theorem dX10_laySteps_8 : decode (am_code 123) 8 = .ok (.aload_n 2, 1) := by decide +kernel
theorem dX10_laySteps_9 : decode (am_code 123) 9 = .ok (.iload_n 3, 1) := by decide +kernel
theorem dX10_laySteps_10 : decode (am_code 123) 10 = .ok (.iload_n 3, 1) := by decide +kernel
theorem dX10_laySteps_11 : decode (am_code 123) 11 = .ok (.iload_n 1, 1) := by decide +kernel
theorem dX10_laySteps_12 : decode (am_code 123) 12 = .ok (.if_icmp .ne 7, 3) := by decide +kernel
theorem dX10_laySteps_15 : decode (am_code 123) 15 = .ok (.iconst 0, 1) := by decide +kernel
theorem dX10_laySteps_16 : decode (am_code 123) 16 = .ok (.goto 6, 3) := by decide +kernel
theorem dX10_laySteps_19 : decode (am_code 123) 19 = .ok (.sipush 1000, 3) := by decide +kernel
theorem dX10_laySteps_22 : decode (am_code 123) 22 = .ok (.iastore, 1) := by decide +kernel
theorem dX10_laySteps_23 : decode (am_code 123) 23 = .ok (.iinc 3 1, 3) := by decide +kernel
theorem dX10_laySteps_26 : decode (am_code 123) 26 = .ok (.goto (-24), 3) := by decide +kernel
theorem dX10_laySteps_29 : decode (am_code 123) 29 = .ok (.iload_n 1, 1) := by decide +kernel
theorem dX10_laySteps_30 : decode (am_code 123) 30 = .ok (.istore_n 3, 1) := by decide +kernel
theorem dX10_laySteps_31 : decode (am_code 123) 31 = .ok (.iload_n 3, 1) := by decide +kernel
theorem dX10_laySteps_32 : decode (am_code 123) 32 = .ok (.ifCond .lt 82, 3) := by decide +kernel
theorem dX10_laySteps_35 : decode (am_code 123) 35 = .ok (.aload_n 2, 1) := by decide +kernel
theorem dX10_laySteps_36 : decode (am_code 123) 36 = .ok (.iload_n 3, 1) := by decide +kernel
theorem dX10_laySteps_37 : decode (am_code 123) 37 = .ok (.iaload, 1) := by decide +kernel
theorem dX10_laySteps_38 : decode (am_code 123) 38 = .ok (.iconst 1, 1) := by decide +kernel
theorem dX10_laySteps_39 : decode (am_code 123) 39 = .ok (.iadd, 1) := by decide +kernel
theorem dX10_laySteps_40 : decode (am_code 123) 40 = .ok (.istore 4, 2) := by decide +kernel
theorem dX10_laySteps_42 : decode (am_code 123) 42 = .ok (.aload_n 0, 1) := by decide +kernel
theorem dX10_laySteps_43 : decode (am_code 123) 43 = .ok (.getfield 40, 3) := by decide +kernel
theorem dX10_laySteps_46 : decode (am_code 123) 46 = .ok (.iload_n 3, 1) := by decide +kernel
theorem dX10_laySteps_47 : decode (am_code 123) 47 = .ok (.iaload, 1) := by decide +kernel
theorem dX10_laySteps_48 : decode (am_code 123) 48 = .ok (.iconst (-1), 1) := by decide +kernel
theorem dX10_laySteps_49 : decode (am_code 123) 49 = .ok (.if_icmp .eq 26, 3) := by decide +kernel
theorem dX10_laySteps_52 : decode (am_code 123) 52 = .ok (.iload 4, 2) := by decide +kernel
theorem dX10_laySteps_54 : decode (am_code 123) 54 = .ok (.aload_n 2, 1) := by decide +kernel
theorem dX10_laySteps_55 : decode (am_code 123) 55 = .ok (.aload_n 0, 1) := by decide +kernel
theorem dX10_laySteps_56 : decode (am_code 123) 56 = .ok (.getfield 40, 3) := by decide +kernel
theorem dX10_laySteps_59 : decode (am_code 123) 59 = .ok (.iload_n 3, 1) := by decide +kernel
theorem dX10_laySteps_60 : decode (am_code 123) 60 = .ok (.iaload, 1) := by decide +kernel
theorem dX10_laySteps_61 : decode (am_code 123) 61 = .ok (.iaload, 1) := by decide +kernel
theorem dX10_laySteps_62 : decode (am_code 123) 62 = .ok (.if_icmp .ge 13, 3) := by decide +kernel
theorem dX10_laySteps_65 : decode (am_code 123) 65 = .ok (.aload_n 2, 1) := by decide +kernel
theorem dX10_laySteps_66 : decode (am_code 123) 66 = .ok (.aload_n 0, 1) := by decide +kernel
theorem dX10_laySteps_67 : decode (am_code 123) 67 = .ok (.getfield 40, 3) := by decide +kernel
theorem dX10_laySteps_70 : decode (am_code 123) 70 = .ok (.iload_n 3, 1) := by decide +kernel
theorem dX10_laySteps_71 : decode (am_code 123) 71 = .ok (.iaload, 1) := by decide +kernel
theorem dX10_laySteps_72 : decode (am_code 123) 72 = .ok (.iload 4, 2) := by decide +kernel
theorem dX10_laySteps_74 : decode (am_code 123) 74 = .ok (.iastore, 1) := by decide +kernel
theorem dX10_laySteps_75 : decode (am_code 123) 75 = .ok (.aload_n 0, 1) := by decide +kernel
theorem dX10_laySteps_76 : decode (am_code 123) 76 = .ok (.getfield 28, 3) := by decide +kernel
theorem dX10_laySteps_79 : decode (am_code 123) 79 = .ok (.iload_n 3, 1) := by decide +kernel
theorem dX10_laySteps_80 : decode (am_code 123) 80 = .ok (.iaload, 1) := by decide +kernel
theorem dX10_laySteps_81 : decode (am_code 123) 81 = .ok (.iconst (-1), 1) := by decide +kernel
theorem dX10_laySteps_82 : decode (am_code 123) 82 = .ok (.if_icmp .eq 26, 3) := by decide +kernel
theorem dX10_laySteps_85 : decode (am_code 123) 85 = .ok (.iload 4, 2) := by decide +kernel
theorem dX10_laySteps_87 : decode (am_code 123) 87 = .ok (.aload_n 2, 1) := by decide +kernel
theorem dX10_laySteps_88 : decode (am_code 123) 88 = .ok (.aload_n 0, 1) := by decide +kernel
theorem dX10_laySteps_89 : decode (am_code 123) 89 = .ok (.getfield 28, 3) := by decide +kernel
theorem dX10_laySteps_92 : decode (am_code 123) 92 = .ok (.iload_n 3, 1) := by decide +kernel
theorem dX10_laySteps_93 : decode (am_code 123) 93 = .ok (.iaload, 1) := by decide +kernel
theorem dX10_laySteps_94 : decode (am_code 123) 94 = .ok (.iaload, 1) := by decide +kernel
theorem dX10_laySteps_95 : decode (am_code 123) 95 = .ok (.if_icmp .ge 13, 3) := by decide +kernel
theorem dX10_laySteps_98 : decode (am_code 123) 98 = .ok (.aload_n 2, 1) := by decide +kernel
theorem dX10_laySteps_99 : decode (am_code 123) 99 = .ok (.aload_n 0, 1) := by decide +kernel
theorem dX10_laySteps_100 : decode (am_code 123) 100 = .ok (.getfield 28, 3) := by decide +kernel
theorem dX10_laySteps_103 : decode (am_code 123) 103 = .ok (.iload_n 3, 1) := by decide +kernel
theorem dX10_laySteps_104 : decode (am_code 123) 104 = .ok (.iaload, 1) := by decide +kernel
theorem dX10_laySteps_105 : decode (am_code 123) 105 = .ok (.iload 4, 2) := by decide +kernel
theorem dX10_laySteps_107 : decode (am_code 123) 107 = .ok (.iastore, 1) := by decide +kernel
theorem dX10_laySteps_108 : decode (am_code 123) 108 = .ok (.iinc 3 (-1), 3) := by decide +kernel
theorem dX10_laySteps_111 : decode (am_code 123) 111 = .ok (.goto (-80), 3) := by decide +kernel
theorem dX10_laySteps_114 : decode (am_code 123) 114 = .ok (.return_, 1) := by decide +kernel
theorem r123_0 (d : Nat) (ls st : List Value) (σ : am_St) (τ : Int64) : am_run d 123 0 ls st σ τ = am_run d 123 1 ls (.int 0 :: st) σ τ := rr_iconst 0 dX10_laySteps_0 (by decide)
theorem r123_1 (d : Nat) (st : List Value) (σ : am_St) (τ : Int64) (x : Int32) (v0 v1 v2 v3 v4 : Value) : am_run d 123 1 [v0, v1, v2, v3, v4] (.int x :: st) σ τ = am_run d 123 2 [v0, v1, am_nl v2, .int x, v4] st σ τ := rr_istore_n _ dX10_laySteps_1 (by decide) (by first | rfl | (by_cases h : v2.category = 2 <;> simp [am_set1, am_nl, h]))
theorem r123_2 (d : Nat) (st : List Value) (σ : am_St) (τ : Int64) (x : Int32) (v0 v1 v2 v4 : Value) : am_run d 123 2 [v0, v1, v2, .int x, v4] st σ τ = am_run d 123 3 [v0, v1, v2, .int x, v4] (.int x :: st) σ τ := rr_iload_n dX10_laySteps_2 rfl
theorem r123_3 (d : Nat) (ls st : List Value) (σ : am_St) (τ : Int64) : am_run d 123 3 ls st σ τ = am_run d 123 5 ls (.int 12 :: st) σ τ := rr_bipush 12 dX10_laySteps_3 (by decide)
theorem r123_5 (d : Nat) (ls st : List Value) (σ : am_St) (τ : Int64) (x y : Int32) : am_run d 123 5 ls (.int y :: .int x :: st) σ τ = if y ≤ x then am_run d 123 29 ls st σ τ else am_run d 123 8 ls st σ τ := (rr_icmp 29 dX10_laySteps_5 (by decide)).trans am_sel
theorem r123_8 (d : Nat) (st : List Value) (σ : am_St) (τ : Int64) (x : Nat) (v0 v1 v3 v4 : Value) : am_run d 123 8 [v0, v1, .ref x, v3, v4] st σ τ = am_run d 123 9 [v0, v1, .ref x, v3, v4] (.ref x :: st) σ τ := rr_aload_n dX10_laySteps_8 rfl
theorem r123_9 (d : Nat) (st : List Value) (σ : am_St) (τ : Int64) (x : Int32) (v0 v1 v2 v4 : Value) : am_run d 123 9 [v0, v1, v2, .int x, v4] st σ τ = am_run d 123 10 [v0, v1, v2, .int x, v4] (.int x :: st) σ τ := rr_iload_n dX10_laySteps_9 rfl
theorem r123_10 (d : Nat) (st : List Value) (σ : am_St) (τ : Int64) (x : Int32) (v0 v1 v2 v4 : Value) : am_run d 123 10 [v0, v1, v2, .int x, v4] st σ τ = am_run d 123 11 [v0, v1, v2, .int x, v4] (.int x :: st) σ τ := rr_iload_n dX10_laySteps_10 rfl
theorem r123_11 (d : Nat) (st : List Value) (σ : am_St) (τ : Int64) (x : Int32) (v0 v2 v3 v4 : Value) : am_run d 123 11 [v0, .int x, v2, v3, v4] st σ τ = am_run d 123 12 [v0, .int x, v2, v3, v4] (.int x :: st) σ τ := rr_iload_n dX10_laySteps_11 rfl
theorem r123_12 (d : Nat) (ls st : List Value) (σ : am_St) (τ : Int64) (x y : Int32) : am_run d 123 12 ls (.int y :: .int x :: st) σ τ = if x = y then am_run d 123 15 ls st σ τ else am_run d 123 19 ls st σ τ := (rr_icmp 19 dX10_laySteps_12 (by decide)).trans am_seln
theorem r123_15 (d : Nat) (ls st : List Value) (σ : am_St) (τ : Int64) : am_run d 123 15 ls st σ τ = am_run d 123 16 ls (.int 0 :: st) σ τ := rr_iconst 0 dX10_laySteps_15 (by decide)
theorem r123_16 (d : Nat) (ls st : List Value) (σ : am_St) (τ : Int64) : am_run d 123 16 ls st σ τ = am_run d 123 22 ls st σ τ := rr_goto 22 dX10_laySteps_16 (by decide)
theorem r123_19 (d : Nat) (ls st : List Value) (σ : am_St) (τ : Int64) : am_run d 123 19 ls st σ τ = am_run d 123 22 ls (.int 1000 :: st) σ τ := rr_sipush 1000 dX10_laySteps_19 (by decide)
theorem r123_22 (d : Nat) (ls st : List Value) (σ : am_St) (τ : Int64) (x i : Int32) (k : Nat) : am_run d 123 22 ls (.int x :: .int i :: .ref k :: st) σ τ = am_ai false k i (fun j => am_run d 123 23 ls st (am_up σ k j x) τ) := rr_iast dX10_laySteps_22
theorem r123_23 (d : Nat) (st : List Value) (σ : am_St) (τ : Int64) (x : Int32) (v0 v1 v2 v4 : Value) : am_run d 123 23 [v0, v1, v2, .int x, v4] st σ τ = am_run d 123 26 [v0, v1, am_nl v2, .int (x + 1), v4] st σ τ := rr_iinc 1 _ dX10_laySteps_23 rfl (by decide) (by decide) (by first | rfl | (by_cases h : v2.category = 2 <;> simp [am_set1, am_nl, h]))
theorem r123_26 (d : Nat) (ls st : List Value) (σ : am_St) (τ : Int64) : am_run d 123 26 ls st σ τ = am_run d 123 2 ls st σ τ := rr_goto 2 dX10_laySteps_26 (by decide)
theorem r123_29 (d : Nat) (st : List Value) (σ : am_St) (τ : Int64) (x : Int32) (v0 v2 v3 v4 : Value) : am_run d 123 29 [v0, .int x, v2, v3, v4] st σ τ = am_run d 123 30 [v0, .int x, v2, v3, v4] (.int x :: st) σ τ := rr_iload_n dX10_laySteps_29 rfl
theorem r123_30 (d : Nat) (st : List Value) (σ : am_St) (τ : Int64) (x : Int32) (v0 v1 v2 v3 v4 : Value) : am_run d 123 30 [v0, v1, v2, v3, v4] (.int x :: st) σ τ = am_run d 123 31 [v0, v1, am_nl v2, .int x, v4] st σ τ := rr_istore_n _ dX10_laySteps_30 (by decide) (by first | rfl | (by_cases h : v2.category = 2 <;> simp [am_set1, am_nl, h]))
theorem r123_31 (d : Nat) (st : List Value) (σ : am_St) (τ : Int64) (x : Int32) (v0 v1 v2 v4 : Value) : am_run d 123 31 [v0, v1, v2, .int x, v4] st σ τ = am_run d 123 32 [v0, v1, v2, .int x, v4] (.int x :: st) σ τ := rr_iload_n dX10_laySteps_31 rfl
theorem r123_32 (d : Nat) (ls st : List Value) (σ : am_St) (τ : Int64) (x : Int32) : am_run d 123 32 ls (.int x :: st) σ τ = if x < 0 then am_run d 123 114 ls st σ τ else am_run d 123 35 ls st σ τ := (rr_if 114 dX10_laySteps_32 (by decide)).trans am_sel
theorem r123_35 (d : Nat) (st : List Value) (σ : am_St) (τ : Int64) (x : Nat) (v0 v1 v3 v4 : Value) : am_run d 123 35 [v0, v1, .ref x, v3, v4] st σ τ = am_run d 123 36 [v0, v1, .ref x, v3, v4] (.ref x :: st) σ τ := rr_aload_n dX10_laySteps_35 rfl
theorem r123_36 (d : Nat) (st : List Value) (σ : am_St) (τ : Int64) (x : Int32) (v0 v1 v2 v4 : Value) : am_run d 123 36 [v0, v1, v2, .int x, v4] st σ τ = am_run d 123 37 [v0, v1, v2, .int x, v4] (.int x :: st) σ τ := rr_iload_n dX10_laySteps_36 rfl
theorem r123_37 (d : Nat) (ls st : List Value) (σ : am_St) (τ : Int64) (i : Int32) (k : Nat) : am_run d 123 37 ls (.int i :: .ref k :: st) σ τ = am_ai false k i (fun j => am_run d 123 38 ls (.int (σ k j) :: st) σ τ) := rr_iald dX10_laySteps_37
theorem r123_38 (d : Nat) (ls st : List Value) (σ : am_St) (τ : Int64) : am_run d 123 38 ls st σ τ = am_run d 123 39 ls (.int 1 :: st) σ τ := rr_iconst 1 dX10_laySteps_38 (by decide)
theorem r123_39 (d : Nat) (ls st : List Value) (σ : am_St) (τ : Int64) (x y : Int32) : am_run d 123 39 ls (.int y :: .int x :: st) σ τ = am_run d 123 40 ls (.int (x + y) :: st) σ τ := rr_iadd dX10_laySteps_39
theorem r123_40 (d : Nat) (st : List Value) (σ : am_St) (τ : Int64) (x : Int32) (v0 v1 v2 v3 v4 : Value) : am_run d 123 40 [v0, v1, v2, v3, v4] (.int x :: st) σ τ = am_run d 123 42 [v0, v1, v2, am_nl v3, .int x] st σ τ := rr_istore _ dX10_laySteps_40 (by decide) (by first | rfl | (by_cases h : v3.category = 2 <;> simp [am_set1, am_nl, h]))
theorem r123_42 (d : Nat) (st : List Value) (σ : am_St) (τ : Int64) (x : Nat) (v1 v2 v3 v4 : Value) : am_run d 123 42 [.ref x, v1, v2, v3, v4] st σ τ = am_run d 123 43 [.ref x, v1, v2, v3, v4] (.ref x :: st) σ τ := rr_aload_n dX10_laySteps_42 rfl
theorem r123_43 (d : Nat) (ls st : List Value) (σ : am_St) (τ : Int64) (k : Nat) : am_run d 123 43 ls (.ref k :: st) σ τ = am_gf k 10 15 σ τ (fun v => am_run d 123 46 ls (v :: st) σ τ) := rr_getf dX10_laySteps_43 (by decide +kernel)
theorem r123_46 (d : Nat) (st : List Value) (σ : am_St) (τ : Int64) (x : Int32) (v0 v1 v2 v4 : Value) : am_run d 123 46 [v0, v1, v2, .int x, v4] st σ τ = am_run d 123 47 [v0, v1, v2, .int x, v4] (.int x :: st) σ τ := rr_iload_n dX10_laySteps_46 rfl
theorem r123_47 (d : Nat) (ls st : List Value) (σ : am_St) (τ : Int64) (i : Int32) (k : Nat) : am_run d 123 47 ls (.int i :: .ref k :: st) σ τ = am_ai false k i (fun j => am_run d 123 48 ls (.int (σ k j) :: st) σ τ) := rr_iald dX10_laySteps_47
theorem r123_48 (d : Nat) (ls st : List Value) (σ : am_St) (τ : Int64) : am_run d 123 48 ls st σ τ = am_run d 123 49 ls (.int (-1) :: st) σ τ := rr_iconst (-1) dX10_laySteps_48 (by decide)
theorem r123_49 (d : Nat) (ls st : List Value) (σ : am_St) (τ : Int64) (x y : Int32) : am_run d 123 49 ls (.int y :: .int x :: st) σ τ = if x = y then am_run d 123 75 ls st σ τ else am_run d 123 52 ls st σ τ := (rr_icmp 75 dX10_laySteps_49 (by decide)).trans am_sel
theorem r123_52 (d : Nat) (st : List Value) (σ : am_St) (τ : Int64) (x : Int32) (v0 v1 v2 v3 : Value) : am_run d 123 52 [v0, v1, v2, v3, .int x] st σ τ = am_run d 123 54 [v0, v1, v2, v3, .int x] (.int x :: st) σ τ := rr_iload dX10_laySteps_52 rfl
theorem r123_54 (d : Nat) (st : List Value) (σ : am_St) (τ : Int64) (x : Nat) (v0 v1 v3 v4 : Value) : am_run d 123 54 [v0, v1, .ref x, v3, v4] st σ τ = am_run d 123 55 [v0, v1, .ref x, v3, v4] (.ref x :: st) σ τ := rr_aload_n dX10_laySteps_54 rfl
theorem r123_55 (d : Nat) (st : List Value) (σ : am_St) (τ : Int64) (x : Nat) (v1 v2 v3 v4 : Value) : am_run d 123 55 [.ref x, v1, v2, v3, v4] st σ τ = am_run d 123 56 [.ref x, v1, v2, v3, v4] (.ref x :: st) σ τ := rr_aload_n dX10_laySteps_55 rfl
theorem r123_56 (d : Nat) (ls st : List Value) (σ : am_St) (τ : Int64) (k : Nat) : am_run d 123 56 ls (.ref k :: st) σ τ = am_gf k 10 15 σ τ (fun v => am_run d 123 59 ls (v :: st) σ τ) := rr_getf dX10_laySteps_56 (by decide +kernel)
theorem r123_59 (d : Nat) (st : List Value) (σ : am_St) (τ : Int64) (x : Int32) (v0 v1 v2 v4 : Value) : am_run d 123 59 [v0, v1, v2, .int x, v4] st σ τ = am_run d 123 60 [v0, v1, v2, .int x, v4] (.int x :: st) σ τ := rr_iload_n dX10_laySteps_59 rfl
theorem r123_60 (d : Nat) (ls st : List Value) (σ : am_St) (τ : Int64) (i : Int32) (k : Nat) : am_run d 123 60 ls (.int i :: .ref k :: st) σ τ = am_ai false k i (fun j => am_run d 123 61 ls (.int (σ k j) :: st) σ τ) := rr_iald dX10_laySteps_60
theorem r123_61 (d : Nat) (ls st : List Value) (σ : am_St) (τ : Int64) (i : Int32) (k : Nat) : am_run d 123 61 ls (.int i :: .ref k :: st) σ τ = am_ai false k i (fun j => am_run d 123 62 ls (.int (σ k j) :: st) σ τ) := rr_iald dX10_laySteps_61
theorem r123_62 (d : Nat) (ls st : List Value) (σ : am_St) (τ : Int64) (x y : Int32) : am_run d 123 62 ls (.int y :: .int x :: st) σ τ = if y ≤ x then am_run d 123 75 ls st σ τ else am_run d 123 65 ls st σ τ := (rr_icmp 75 dX10_laySteps_62 (by decide)).trans am_sel
theorem r123_65 (d : Nat) (st : List Value) (σ : am_St) (τ : Int64) (x : Nat) (v0 v1 v3 v4 : Value) : am_run d 123 65 [v0, v1, .ref x, v3, v4] st σ τ = am_run d 123 66 [v0, v1, .ref x, v3, v4] (.ref x :: st) σ τ := rr_aload_n dX10_laySteps_65 rfl
theorem r123_66 (d : Nat) (st : List Value) (σ : am_St) (τ : Int64) (x : Nat) (v1 v2 v3 v4 : Value) : am_run d 123 66 [.ref x, v1, v2, v3, v4] st σ τ = am_run d 123 67 [.ref x, v1, v2, v3, v4] (.ref x :: st) σ τ := rr_aload_n dX10_laySteps_66 rfl
theorem r123_67 (d : Nat) (ls st : List Value) (σ : am_St) (τ : Int64) (k : Nat) : am_run d 123 67 ls (.ref k :: st) σ τ = am_gf k 10 15 σ τ (fun v => am_run d 123 70 ls (v :: st) σ τ) := rr_getf dX10_laySteps_67 (by decide +kernel)
theorem r123_70 (d : Nat) (st : List Value) (σ : am_St) (τ : Int64) (x : Int32) (v0 v1 v2 v4 : Value) : am_run d 123 70 [v0, v1, v2, .int x, v4] st σ τ = am_run d 123 71 [v0, v1, v2, .int x, v4] (.int x :: st) σ τ := rr_iload_n dX10_laySteps_70 rfl
theorem r123_71 (d : Nat) (ls st : List Value) (σ : am_St) (τ : Int64) (i : Int32) (k : Nat) : am_run d 123 71 ls (.int i :: .ref k :: st) σ τ = am_ai false k i (fun j => am_run d 123 72 ls (.int (σ k j) :: st) σ τ) := rr_iald dX10_laySteps_71
theorem r123_72 (d : Nat) (st : List Value) (σ : am_St) (τ : Int64) (x : Int32) (v0 v1 v2 v3 : Value) : am_run d 123 72 [v0, v1, v2, v3, .int x] st σ τ = am_run d 123 74 [v0, v1, v2, v3, .int x] (.int x :: st) σ τ := rr_iload dX10_laySteps_72 rfl
theorem r123_74 (d : Nat) (ls st : List Value) (σ : am_St) (τ : Int64) (x i : Int32) (k : Nat) : am_run d 123 74 ls (.int x :: .int i :: .ref k :: st) σ τ = am_ai false k i (fun j => am_run d 123 75 ls st (am_up σ k j x) τ) := rr_iast dX10_laySteps_74
theorem r123_75 (d : Nat) (st : List Value) (σ : am_St) (τ : Int64) (x : Nat) (v1 v2 v3 v4 : Value) : am_run d 123 75 [.ref x, v1, v2, v3, v4] st σ τ = am_run d 123 76 [.ref x, v1, v2, v3, v4] (.ref x :: st) σ τ := rr_aload_n dX10_laySteps_75 rfl
theorem r123_76 (d : Nat) (ls st : List Value) (σ : am_St) (τ : Int64) (k : Nat) : am_run d 123 76 ls (.ref k :: st) σ τ = am_gf k 10 11 σ τ (fun v => am_run d 123 79 ls (v :: st) σ τ) := rr_getf dX10_laySteps_76 (by decide +kernel)
theorem r123_79 (d : Nat) (st : List Value) (σ : am_St) (τ : Int64) (x : Int32) (v0 v1 v2 v4 : Value) : am_run d 123 79 [v0, v1, v2, .int x, v4] st σ τ = am_run d 123 80 [v0, v1, v2, .int x, v4] (.int x :: st) σ τ := rr_iload_n dX10_laySteps_79 rfl
theorem r123_80 (d : Nat) (ls st : List Value) (σ : am_St) (τ : Int64) (i : Int32) (k : Nat) : am_run d 123 80 ls (.int i :: .ref k :: st) σ τ = am_ai false k i (fun j => am_run d 123 81 ls (.int (σ k j) :: st) σ τ) := rr_iald dX10_laySteps_80
theorem r123_81 (d : Nat) (ls st : List Value) (σ : am_St) (τ : Int64) : am_run d 123 81 ls st σ τ = am_run d 123 82 ls (.int (-1) :: st) σ τ := rr_iconst (-1) dX10_laySteps_81 (by decide)
theorem r123_82 (d : Nat) (ls st : List Value) (σ : am_St) (τ : Int64) (x y : Int32) : am_run d 123 82 ls (.int y :: .int x :: st) σ τ = if x = y then am_run d 123 108 ls st σ τ else am_run d 123 85 ls st σ τ := (rr_icmp 108 dX10_laySteps_82 (by decide)).trans am_sel
theorem r123_85 (d : Nat) (st : List Value) (σ : am_St) (τ : Int64) (x : Int32) (v0 v1 v2 v3 : Value) : am_run d 123 85 [v0, v1, v2, v3, .int x] st σ τ = am_run d 123 87 [v0, v1, v2, v3, .int x] (.int x :: st) σ τ := rr_iload dX10_laySteps_85 rfl
theorem r123_87 (d : Nat) (st : List Value) (σ : am_St) (τ : Int64) (x : Nat) (v0 v1 v3 v4 : Value) : am_run d 123 87 [v0, v1, .ref x, v3, v4] st σ τ = am_run d 123 88 [v0, v1, .ref x, v3, v4] (.ref x :: st) σ τ := rr_aload_n dX10_laySteps_87 rfl
theorem r123_88 (d : Nat) (st : List Value) (σ : am_St) (τ : Int64) (x : Nat) (v1 v2 v3 v4 : Value) : am_run d 123 88 [.ref x, v1, v2, v3, v4] st σ τ = am_run d 123 89 [.ref x, v1, v2, v3, v4] (.ref x :: st) σ τ := rr_aload_n dX10_laySteps_88 rfl
theorem r123_89 (d : Nat) (ls st : List Value) (σ : am_St) (τ : Int64) (k : Nat) : am_run d 123 89 ls (.ref k :: st) σ τ = am_gf k 10 11 σ τ (fun v => am_run d 123 92 ls (v :: st) σ τ) := rr_getf dX10_laySteps_89 (by decide +kernel)
theorem r123_92 (d : Nat) (st : List Value) (σ : am_St) (τ : Int64) (x : Int32) (v0 v1 v2 v4 : Value) : am_run d 123 92 [v0, v1, v2, .int x, v4] st σ τ = am_run d 123 93 [v0, v1, v2, .int x, v4] (.int x :: st) σ τ := rr_iload_n dX10_laySteps_92 rfl
theorem r123_93 (d : Nat) (ls st : List Value) (σ : am_St) (τ : Int64) (i : Int32) (k : Nat) : am_run d 123 93 ls (.int i :: .ref k :: st) σ τ = am_ai false k i (fun j => am_run d 123 94 ls (.int (σ k j) :: st) σ τ) := rr_iald dX10_laySteps_93
theorem r123_94 (d : Nat) (ls st : List Value) (σ : am_St) (τ : Int64) (i : Int32) (k : Nat) : am_run d 123 94 ls (.int i :: .ref k :: st) σ τ = am_ai false k i (fun j => am_run d 123 95 ls (.int (σ k j) :: st) σ τ) := rr_iald dX10_laySteps_94
theorem r123_95 (d : Nat) (ls st : List Value) (σ : am_St) (τ : Int64) (x y : Int32) : am_run d 123 95 ls (.int y :: .int x :: st) σ τ = if y ≤ x then am_run d 123 108 ls st σ τ else am_run d 123 98 ls st σ τ := (rr_icmp 108 dX10_laySteps_95 (by decide)).trans am_sel
theorem r123_98 (d : Nat) (st : List Value) (σ : am_St) (τ : Int64) (x : Nat) (v0 v1 v3 v4 : Value) : am_run d 123 98 [v0, v1, .ref x, v3, v4] st σ τ = am_run d 123 99 [v0, v1, .ref x, v3, v4] (.ref x :: st) σ τ := rr_aload_n dX10_laySteps_98 rfl
theorem r123_99 (d : Nat) (st : List Value) (σ : am_St) (τ : Int64) (x : Nat) (v1 v2 v3 v4 : Value) : am_run d 123 99 [.ref x, v1, v2, v3, v4] st σ τ = am_run d 123 100 [.ref x, v1, v2, v3, v4] (.ref x :: st) σ τ := rr_aload_n dX10_laySteps_99 rfl
theorem r123_100 (d : Nat) (ls st : List Value) (σ : am_St) (τ : Int64) (k : Nat) : am_run d 123 100 ls (.ref k :: st) σ τ = am_gf k 10 11 σ τ (fun v => am_run d 123 103 ls (v :: st) σ τ) := rr_getf dX10_laySteps_100 (by decide +kernel)
theorem r123_103 (d : Nat) (st : List Value) (σ : am_St) (τ : Int64) (x : Int32) (v0 v1 v2 v4 : Value) : am_run d 123 103 [v0, v1, v2, .int x, v4] st σ τ = am_run d 123 104 [v0, v1, v2, .int x, v4] (.int x :: st) σ τ := rr_iload_n dX10_laySteps_103 rfl
theorem r123_104 (d : Nat) (ls st : List Value) (σ : am_St) (τ : Int64) (i : Int32) (k : Nat) : am_run d 123 104 ls (.int i :: .ref k :: st) σ τ = am_ai false k i (fun j => am_run d 123 105 ls (.int (σ k j) :: st) σ τ) := rr_iald dX10_laySteps_104
theorem r123_105 (d : Nat) (st : List Value) (σ : am_St) (τ : Int64) (x : Int32) (v0 v1 v2 v3 : Value) : am_run d 123 105 [v0, v1, v2, v3, .int x] st σ τ = am_run d 123 107 [v0, v1, v2, v3, .int x] (.int x :: st) σ τ := rr_iload dX10_laySteps_105 rfl
theorem r123_107 (d : Nat) (ls st : List Value) (σ : am_St) (τ : Int64) (x i : Int32) (k : Nat) : am_run d 123 107 ls (.int x :: .int i :: .ref k :: st) σ τ = am_ai false k i (fun j => am_run d 123 108 ls st (am_up σ k j x) τ) := rr_iast dX10_laySteps_107
theorem r123_108 (d : Nat) (st : List Value) (σ : am_St) (τ : Int64) (x : Int32) (v0 v1 v2 v4 : Value) : am_run d 123 108 [v0, v1, v2, .int x, v4] st σ τ = am_run d 123 111 [v0, v1, am_nl v2, .int (x + (-1)), v4] st σ τ := rr_iinc (-1) _ dX10_laySteps_108 rfl (by decide) (by decide) (by first | rfl | (by_cases h : v2.category = 2 <;> simp [am_set1, am_nl, h]))
theorem r123_111 (d : Nat) (ls st : List Value) (σ : am_St) (τ : Int64) : am_run d 123 111 ls st σ τ = am_run d 123 31 ls st σ τ := rr_goto 31 dX10_laySteps_111 (by decide)
theorem r123_114 (d : Nat) (ls : List Value) (σ : am_St) (τ : Int64) : am_run d 123 114 ls [] σ τ = some (none, σ, τ) := rr_vret dX10_laySteps_114 rfl
theorem dX10_nearOf_0 : decode (am_code 124) 0 = .ok (.aload_n 0, 1) := by decide +kernel
theorem dX10_nearOf_1 : decode (am_code 124) 1 = .ok (.iload_n 1, 1) := by decide +kernel
theorem dX10_nearOf_2 : decode (am_code 124) 2 = .ok (.aload_n 0, 1) := by decide +kernel
theorem dX10_nearOf_3 : decode (am_code 124) 3 = .ok (.getfield 73, 3) := by decide +kernel
theorem dX10_nearOf_6 : decode (am_code 124) 6 = .ok (.invokevirtual 211, 3) := by decide +kernel
theorem dX10_nearOf_9 : decode (am_code 124) 9 = .ok (.aload_n 0, 1) := by decide +kernel
theorem dX10_nearOf_10 : decode (am_code 124) 10 = .ok (.iload_n 2, 1) := by decide +kernel
theorem dX10_nearOf_11 : decode (am_code 124) 11 = .ok (.aload_n 0, 1) := by decide +kernel
theorem dX10_nearOf_12 : decode (am_code 124) 12 = .ok (.getfield 76, 3) := by decide +kernel
theorem dX10_nearOf_15 : decode (am_code 124) 15 = .ok (.invokevirtual 211, 3) := by decide +kernel
theorem dX10_nearOf_18 : decode (am_code 124) 18 = .ok (.sipush 1000, 3) := by decide +kernel
theorem dX10_nearOf_21 : decode (am_code 124) 21 = .ok (.istore_n 3, 1) := by decide +kernel
theorem dX10_nearOf_22 : decode (am_code 124) 22 = .ok (.iconst 0, 1) := by decide +kernel
theorem dX10_nearOf_23 : decode (am_code 124) 23 = .ok (.istore 4, 2) := by decide +kernel
theorem dX10_nearOf_25 : decode (am_code 124) 25 = .ok (.iload 4, 2) := by decide +kernel
theorem dX10_nearOf_27 : decode (am_code 124) 27 = .ok (.aload_n 0, 1) := by decide +kernel
theorem dX10_nearOf_28 : decode (am_code 124) 28 = .ok (.getfield 129, 3) := by decide +kernel
theorem dX10_nearOf_31 : decode (am_code 124) 31 = .ok (.if_icmp .ge 39, 3) := by decide +kernel
theorem dX10_nearOf_34 : decode (am_code 124) 34 = .ok (.aload_n 0, 1) := by decide +kernel
theorem dX10_nearOf_35 : decode (am_code 124) 35 = .ok (.getfield 73, 3) := by decide +kernel
theorem dX10_nearOf_38 : decode (am_code 124) 38 = .ok (.iload 4, 2) := by decide +kernel
theorem dX10_nearOf_40 : decode (am_code 124) 40 = .ok (.iaload, 1) := by decide +kernel
theorem dX10_nearOf_41 : decode (am_code 124) 41 = .ok (.aload_n 0, 1) := by decide +kernel
theorem dX10_nearOf_42 : decode (am_code 124) 42 = .ok (.getfield 76, 3) := by decide +kernel
theorem dX10_nearOf_45 : decode (am_code 124) 45 = .ok (.iload 4, 2) := by decide +kernel
theorem dX10_nearOf_47 : decode (am_code 124) 47 = .ok (.iaload, 1) := by decide +kernel
theorem dX10_nearOf_48 : decode (am_code 124) 48 = .ok (.iadd, 1) := by decide +kernel
theorem dX10_nearOf_49 : decode (am_code 124) 49 = .ok (.istore 5, 2) := by decide +kernel
theorem dX10_nearOf_51 : decode (am_code 124) 51 = .ok (.iload 5, 2) := by decide +kernel
theorem dX10_nearOf_53 : decode (am_code 124) 53 = .ok (.iload_n 3, 1) := by decide +kernel
theorem dX10_nearOf_54 : decode (am_code 124) 54 = .ok (.if_icmp .ge 8, 3) := by decide +kernel
theorem dX10_nearOf_57 : decode (am_code 124) 57 = .ok (.iload 5, 2) := by decide +kernel
theorem dX10_nearOf_59 : decode (am_code 124) 59 = .ok (.goto 4, 3) := by decide +kernel
theorem dX10_nearOf_62 : decode (am_code 124) 62 = .ok (.iload_n 3, 1) := by decide +kernel
theorem dX10_nearOf_63 : decode (am_code 124) 63 = .ok (.istore_n 3, 1) := by decide +kernel
theorem dX10_nearOf_64 : decode (am_code 124) 64 = .ok (.iinc 4 1, 3) := by decide +kernel
theorem dX10_nearOf_67 : decode (am_code 124) 67 = .ok (.goto (-42), 3) := by decide +kernel
theorem dX10_nearOf_70 : decode (am_code 124) 70 = .ok (.iload_n 3, 1) := by decide +kernel
theorem dX10_nearOf_71 : decode (am_code 124) 71 = .ok (.sipush 1000, 3) := by decide +kernel
theorem dX10_nearOf_74 : decode (am_code 124) 74 = .ok (.if_icmp .ne 7, 3) := by decide +kernel
theorem dX10_nearOf_77 : decode (am_code 124) 77 = .ok (.iconst (-1), 1) := by decide +kernel
theorem dX10_nearOf_78 : decode (am_code 124) 78 = .ok (.goto 4, 3) := by decide +kernel
theorem dX10_nearOf_81 : decode (am_code 124) 81 = .ok (.iload_n 3, 1) := by decide +kernel
theorem dX10_nearOf_82 : decode (am_code 124) 82 = .ok (.ireturn, 1) := by decide +kernel
theorem r124_0 (d : Nat) (st : List Value) (σ : am_St) (τ : Int64) (x : Nat) (v1 v2 v3 v4 v5 : Value) : am_run d 124 0 [.ref x, v1, v2, v3, v4, v5] st σ τ = am_run d 124 1 [.ref x, v1, v2, v3, v4, v5] (.ref x :: st) σ τ := rr_aload_n dX10_nearOf_0 rfl
theorem r124_1 (d : Nat) (st : List Value) (σ : am_St) (τ : Int64) (x : Int32) (v0 v2 v3 v4 v5 : Value) : am_run d 124 1 [v0, .int x, v2, v3, v4, v5] st σ τ = am_run d 124 2 [v0, .int x, v2, v3, v4, v5] (.int x :: st) σ τ := rr_iload_n dX10_nearOf_1 rfl
theorem r124_2 (d : Nat) (st : List Value) (σ : am_St) (τ : Int64) (x : Nat) (v1 v2 v3 v4 v5 : Value) : am_run d 124 2 [.ref x, v1, v2, v3, v4, v5] st σ τ = am_run d 124 3 [.ref x, v1, v2, v3, v4, v5] (.ref x :: st) σ τ := rr_aload_n dX10_nearOf_2 rfl
theorem r124_3 (d : Nat) (ls st : List Value) (σ : am_St) (τ : Int64) (k : Nat) : am_run d 124 3 ls (.ref k :: st) σ τ = am_gf k 10 27 σ τ (fun v => am_run d 124 6 ls (v :: st) σ τ) := rr_getf dX10_nearOf_3 (by decide +kernel)
theorem r124_6 (d : Nat) (ls st : List Value) (σ : am_St) (τ : Int64) (k : Nat) (a0 : Int32) (a1 : Nat) (hk : am_kc k = 10) (hc : am_cats st ≤ 8) : am_run (d + 1) 124 6 ls (.ref a1 :: .int a0 :: .ref k :: st) σ τ = (am_call d 123 [.ref k, .int a0, .ref a1] σ τ).bind (fun r => am_run (d + 1) 124 9 ls (r.1.toList ++ st) r.2.1 r.2.2) := rr_invv [.int a0, .ref a1] dX10_nearOf_6 (by decide +kernel) (by decide) rfl (Nat.le_of_ble_eq_true rfl) hk hc
theorem r124_9 (d : Nat) (st : List Value) (σ : am_St) (τ : Int64) (x : Nat) (v1 v2 v3 v4 v5 : Value) : am_run d 124 9 [.ref x, v1, v2, v3, v4, v5] st σ τ = am_run d 124 10 [.ref x, v1, v2, v3, v4, v5] (.ref x :: st) σ τ := rr_aload_n dX10_nearOf_9 rfl
theorem r124_10 (d : Nat) (st : List Value) (σ : am_St) (τ : Int64) (x : Int32) (v0 v1 v3 v4 v5 : Value) : am_run d 124 10 [v0, v1, .int x, v3, v4, v5] st σ τ = am_run d 124 11 [v0, v1, .int x, v3, v4, v5] (.int x :: st) σ τ := rr_iload_n dX10_nearOf_10 rfl
theorem r124_11 (d : Nat) (st : List Value) (σ : am_St) (τ : Int64) (x : Nat) (v1 v2 v3 v4 v5 : Value) : am_run d 124 11 [.ref x, v1, v2, v3, v4, v5] st σ τ = am_run d 124 12 [.ref x, v1, v2, v3, v4, v5] (.ref x :: st) σ τ := rr_aload_n dX10_nearOf_11 rfl
theorem r124_12 (d : Nat) (ls st : List Value) (σ : am_St) (τ : Int64) (k : Nat) : am_run d 124 12 ls (.ref k :: st) σ τ = am_gf k 10 28 σ τ (fun v => am_run d 124 15 ls (v :: st) σ τ) := rr_getf dX10_nearOf_12 (by decide +kernel)
theorem r124_15 (d : Nat) (ls st : List Value) (σ : am_St) (τ : Int64) (k : Nat) (a0 : Int32) (a1 : Nat) (hk : am_kc k = 10) (hc : am_cats st ≤ 8) : am_run (d + 1) 124 15 ls (.ref a1 :: .int a0 :: .ref k :: st) σ τ = (am_call d 123 [.ref k, .int a0, .ref a1] σ τ).bind (fun r => am_run (d + 1) 124 18 ls (r.1.toList ++ st) r.2.1 r.2.2) := rr_invv [.int a0, .ref a1] dX10_nearOf_15 (by decide +kernel) (by decide) rfl (Nat.le_of_ble_eq_true rfl) hk hc
theorem r124_18 (d : Nat) (ls st : List Value) (σ : am_St) (τ : Int64) : am_run d 124 18 ls st σ τ = am_run d 124 21 ls (.int 1000 :: st) σ τ := rr_sipush 1000 dX10_nearOf_18 (by decide)
theorem r124_21 (d : Nat) (st : List Value) (σ : am_St) (τ : Int64) (x : Int32) (v0 v1 v2 v3 v4 v5 : Value) : am_run d 124 21 [v0, v1, v2, v3, v4, v5] (.int x :: st) σ τ = am_run d 124 22 [v0, v1, am_nl v2, .int x, v4, v5] st σ τ := rr_istore_n _ dX10_nearOf_21 (by decide) (by first | rfl | (by_cases h : v2.category = 2 <;> simp [am_set1, am_nl, h]))
theorem r124_22 (d : Nat) (ls st : List Value) (σ : am_St) (τ : Int64) : am_run d 124 22 ls st σ τ = am_run d 124 23 ls (.int 0 :: st) σ τ := rr_iconst 0 dX10_nearOf_22 (by decide)
theorem r124_23 (d : Nat) (st : List Value) (σ : am_St) (τ : Int64) (x : Int32) (v0 v1 v2 v3 v4 v5 : Value) : am_run d 124 23 [v0, v1, v2, v3, v4, v5] (.int x :: st) σ τ = am_run d 124 25 [v0, v1, v2, am_nl v3, .int x, v5] st σ τ := rr_istore _ dX10_nearOf_23 (by decide) (by first | rfl | (by_cases h : v3.category = 2 <;> simp [am_set1, am_nl, h]))
theorem r124_25 (d : Nat) (st : List Value) (σ : am_St) (τ : Int64) (x : Int32) (v0 v1 v2 v3 v5 : Value) : am_run d 124 25 [v0, v1, v2, v3, .int x, v5] st σ τ = am_run d 124 27 [v0, v1, v2, v3, .int x, v5] (.int x :: st) σ τ := rr_iload dX10_nearOf_25 rfl
theorem r124_27 (d : Nat) (st : List Value) (σ : am_St) (τ : Int64) (x : Nat) (v1 v2 v3 v4 v5 : Value) : am_run d 124 27 [.ref x, v1, v2, v3, v4, v5] st σ τ = am_run d 124 28 [.ref x, v1, v2, v3, v4, v5] (.ref x :: st) σ τ := rr_aload_n dX10_nearOf_27 rfl
theorem r124_28 (d : Nat) (ls st : List Value) (σ : am_St) (τ : Int64) (k : Nat) : am_run d 124 28 ls (.ref k :: st) σ τ = am_gf k 10 6 σ τ (fun v => am_run d 124 31 ls (v :: st) σ τ) := rr_getf dX10_nearOf_28 (by decide +kernel)
theorem r124_31 (d : Nat) (ls st : List Value) (σ : am_St) (τ : Int64) (x y : Int32) : am_run d 124 31 ls (.int y :: .int x :: st) σ τ = if y ≤ x then am_run d 124 70 ls st σ τ else am_run d 124 34 ls st σ τ := (rr_icmp 70 dX10_nearOf_31 (by decide)).trans am_sel
theorem r124_34 (d : Nat) (st : List Value) (σ : am_St) (τ : Int64) (x : Nat) (v1 v2 v3 v4 v5 : Value) : am_run d 124 34 [.ref x, v1, v2, v3, v4, v5] st σ τ = am_run d 124 35 [.ref x, v1, v2, v3, v4, v5] (.ref x :: st) σ τ := rr_aload_n dX10_nearOf_34 rfl
theorem r124_35 (d : Nat) (ls st : List Value) (σ : am_St) (τ : Int64) (k : Nat) : am_run d 124 35 ls (.ref k :: st) σ τ = am_gf k 10 27 σ τ (fun v => am_run d 124 38 ls (v :: st) σ τ) := rr_getf dX10_nearOf_35 (by decide +kernel)
theorem r124_38 (d : Nat) (st : List Value) (σ : am_St) (τ : Int64) (x : Int32) (v0 v1 v2 v3 v5 : Value) : am_run d 124 38 [v0, v1, v2, v3, .int x, v5] st σ τ = am_run d 124 40 [v0, v1, v2, v3, .int x, v5] (.int x :: st) σ τ := rr_iload dX10_nearOf_38 rfl
theorem r124_40 (d : Nat) (ls st : List Value) (σ : am_St) (τ : Int64) (i : Int32) (k : Nat) : am_run d 124 40 ls (.int i :: .ref k :: st) σ τ = am_ai false k i (fun j => am_run d 124 41 ls (.int (σ k j) :: st) σ τ) := rr_iald dX10_nearOf_40
theorem r124_41 (d : Nat) (st : List Value) (σ : am_St) (τ : Int64) (x : Nat) (v1 v2 v3 v4 v5 : Value) : am_run d 124 41 [.ref x, v1, v2, v3, v4, v5] st σ τ = am_run d 124 42 [.ref x, v1, v2, v3, v4, v5] (.ref x :: st) σ τ := rr_aload_n dX10_nearOf_41 rfl
theorem r124_42 (d : Nat) (ls st : List Value) (σ : am_St) (τ : Int64) (k : Nat) : am_run d 124 42 ls (.ref k :: st) σ τ = am_gf k 10 28 σ τ (fun v => am_run d 124 45 ls (v :: st) σ τ) := rr_getf dX10_nearOf_42 (by decide +kernel)
theorem r124_45 (d : Nat) (st : List Value) (σ : am_St) (τ : Int64) (x : Int32) (v0 v1 v2 v3 v5 : Value) : am_run d 124 45 [v0, v1, v2, v3, .int x, v5] st σ τ = am_run d 124 47 [v0, v1, v2, v3, .int x, v5] (.int x :: st) σ τ := rr_iload dX10_nearOf_45 rfl
theorem r124_47 (d : Nat) (ls st : List Value) (σ : am_St) (τ : Int64) (i : Int32) (k : Nat) : am_run d 124 47 ls (.int i :: .ref k :: st) σ τ = am_ai false k i (fun j => am_run d 124 48 ls (.int (σ k j) :: st) σ τ) := rr_iald dX10_nearOf_47
theorem r124_48 (d : Nat) (ls st : List Value) (σ : am_St) (τ : Int64) (x y : Int32) : am_run d 124 48 ls (.int y :: .int x :: st) σ τ = am_run d 124 49 ls (.int (x + y) :: st) σ τ := rr_iadd dX10_nearOf_48
theorem r124_49 (d : Nat) (st : List Value) (σ : am_St) (τ : Int64) (x : Int32) (v0 v1 v2 v3 v4 v5 : Value) : am_run d 124 49 [v0, v1, v2, v3, v4, v5] (.int x :: st) σ τ = am_run d 124 51 [v0, v1, v2, v3, am_nl v4, .int x] st σ τ := rr_istore _ dX10_nearOf_49 (by decide) (by first | rfl | (by_cases h : v4.category = 2 <;> simp [am_set1, am_nl, h]))
theorem r124_51 (d : Nat) (st : List Value) (σ : am_St) (τ : Int64) (x : Int32) (v0 v1 v2 v3 v4 : Value) : am_run d 124 51 [v0, v1, v2, v3, v4, .int x] st σ τ = am_run d 124 53 [v0, v1, v2, v3, v4, .int x] (.int x :: st) σ τ := rr_iload dX10_nearOf_51 rfl
theorem r124_53 (d : Nat) (st : List Value) (σ : am_St) (τ : Int64) (x : Int32) (v0 v1 v2 v4 v5 : Value) : am_run d 124 53 [v0, v1, v2, .int x, v4, v5] st σ τ = am_run d 124 54 [v0, v1, v2, .int x, v4, v5] (.int x :: st) σ τ := rr_iload_n dX10_nearOf_53 rfl
theorem r124_54 (d : Nat) (ls st : List Value) (σ : am_St) (τ : Int64) (x y : Int32) : am_run d 124 54 ls (.int y :: .int x :: st) σ τ = if y ≤ x then am_run d 124 62 ls st σ τ else am_run d 124 57 ls st σ τ := (rr_icmp 62 dX10_nearOf_54 (by decide)).trans am_sel
theorem r124_57 (d : Nat) (st : List Value) (σ : am_St) (τ : Int64) (x : Int32) (v0 v1 v2 v3 v4 : Value) : am_run d 124 57 [v0, v1, v2, v3, v4, .int x] st σ τ = am_run d 124 59 [v0, v1, v2, v3, v4, .int x] (.int x :: st) σ τ := rr_iload dX10_nearOf_57 rfl
theorem r124_59 (d : Nat) (ls st : List Value) (σ : am_St) (τ : Int64) : am_run d 124 59 ls st σ τ = am_run d 124 63 ls st σ τ := rr_goto 63 dX10_nearOf_59 (by decide)
theorem r124_62 (d : Nat) (st : List Value) (σ : am_St) (τ : Int64) (x : Int32) (v0 v1 v2 v4 v5 : Value) : am_run d 124 62 [v0, v1, v2, .int x, v4, v5] st σ τ = am_run d 124 63 [v0, v1, v2, .int x, v4, v5] (.int x :: st) σ τ := rr_iload_n dX10_nearOf_62 rfl
theorem r124_63 (d : Nat) (st : List Value) (σ : am_St) (τ : Int64) (x : Int32) (v0 v1 v2 v3 v4 v5 : Value) : am_run d 124 63 [v0, v1, v2, v3, v4, v5] (.int x :: st) σ τ = am_run d 124 64 [v0, v1, am_nl v2, .int x, v4, v5] st σ τ := rr_istore_n _ dX10_nearOf_63 (by decide) (by first | rfl | (by_cases h : v2.category = 2 <;> simp [am_set1, am_nl, h]))
theorem r124_64 (d : Nat) (st : List Value) (σ : am_St) (τ : Int64) (x : Int32) (v0 v1 v2 v3 v5 : Value) : am_run d 124 64 [v0, v1, v2, v3, .int x, v5] st σ τ = am_run d 124 67 [v0, v1, v2, am_nl v3, .int (x + 1), v5] st σ τ := rr_iinc 1 _ dX10_nearOf_64 rfl (by decide) (by decide) (by first | rfl | (by_cases h : v3.category = 2 <;> simp [am_set1, am_nl, h]))
theorem r124_67 (d : Nat) (ls st : List Value) (σ : am_St) (τ : Int64) : am_run d 124 67 ls st σ τ = am_run d 124 25 ls st σ τ := rr_goto 25 dX10_nearOf_67 (by decide)
theorem r124_70 (d : Nat) (st : List Value) (σ : am_St) (τ : Int64) (x : Int32) (v0 v1 v2 v4 v5 : Value) : am_run d 124 70 [v0, v1, v2, .int x, v4, v5] st σ τ = am_run d 124 71 [v0, v1, v2, .int x, v4, v5] (.int x :: st) σ τ := rr_iload_n dX10_nearOf_70 rfl
theorem r124_71 (d : Nat) (ls st : List Value) (σ : am_St) (τ : Int64) : am_run d 124 71 ls st σ τ = am_run d 124 74 ls (.int 1000 :: st) σ τ := rr_sipush 1000 dX10_nearOf_71 (by decide)
theorem r124_74 (d : Nat) (ls st : List Value) (σ : am_St) (τ : Int64) (x y : Int32) : am_run d 124 74 ls (.int y :: .int x :: st) σ τ = if x = y then am_run d 124 77 ls st σ τ else am_run d 124 81 ls st σ τ := (rr_icmp 81 dX10_nearOf_74 (by decide)).trans am_seln
theorem r124_77 (d : Nat) (ls st : List Value) (σ : am_St) (τ : Int64) : am_run d 124 77 ls st σ τ = am_run d 124 78 ls (.int (-1) :: st) σ τ := rr_iconst (-1) dX10_nearOf_77 (by decide)
theorem r124_78 (d : Nat) (ls st : List Value) (σ : am_St) (τ : Int64) : am_run d 124 78 ls st σ τ = am_run d 124 82 ls st σ τ := rr_goto 82 dX10_nearOf_78 (by decide)
theorem r124_81 (d : Nat) (st : List Value) (σ : am_St) (τ : Int64) (x : Int32) (v0 v1 v2 v4 v5 : Value) : am_run d 124 81 [v0, v1, v2, .int x, v4, v5] st σ τ = am_run d 124 82 [v0, v1, v2, .int x, v4, v5] (.int x :: st) σ τ := rr_iload_n dX10_nearOf_81 rfl
theorem r124_82 (d : Nat) (ls : List Value) (σ : am_St) (τ : Int64) (x : Int32) : am_run d 124 82 ls [.int x] σ τ = some (some (.int x), σ, τ) := rr_iret dX10_nearOf_82 rfl
theorem dX10_near_0 : decode (am_code 125) 0 = .ok (.aload_n 0, 1) := by decide +kernel
theorem dX10_near_1 : decode (am_code 125) 1 = .ok (.iload_n 1, 1) := by decide +kernel
theorem dX10_near_2 : decode (am_code 125) 2 = .ok (.invokevirtual 138, 3) := by decide +kernel
theorem dX10_near_5 : decode (am_code 125) 5 = .ok (.ifCond .eq 20, 3) := by decide +kernel
theorem dX10_near_8 : decode (am_code 125) 8 = .ok (.aload_n 0, 1) := by decide +kernel
theorem dX10_near_9 : decode (am_code 125) 9 = .ok (.iload_n 2, 1) := by decide +kernel
theorem dX10_near_10 : decode (am_code 125) 10 = .ok (.invokevirtual 138, 3) := by decide +kernel
theorem dX10_near_13 : decode (am_code 125) 13 = .ok (.ifCond .eq 12, 3) := by decide +kernel
theorem dX10_near_16 : decode (am_code 125) 16 = .ok (.aload_n 0, 1) := by decide +kernel
theorem dX10_near_17 : decode (am_code 125) 17 = .ok (.iload_n 1, 1) := by decide +kernel
theorem dX10_near_18 : decode (am_code 125) 18 = .ok (.iload_n 2, 1) := by decide +kernel
theorem dX10_near_19 : decode (am_code 125) 19 = .ok (.invokevirtual 215, 3) := by decide +kernel
theorem dX10_near_22 : decode (am_code 125) 22 = .ok (.goto 5, 3) := by decide +kernel
theorem dX10_near_25 : decode (am_code 125) 25 = .ok (.bipush (-101), 2) := by decide +kernel
theorem dX10_near_27 : decode (am_code 125) 27 = .ok (.ireturn, 1) := by decide +kernel
theorem r125_0 (d : Nat) (st : List Value) (σ : am_St) (τ : Int64) (x : Nat) (v1 v2 : Value) : am_run d 125 0 [.ref x, v1, v2] st σ τ = am_run d 125 1 [.ref x, v1, v2] (.ref x :: st) σ τ := rr_aload_n dX10_near_0 rfl
theorem r125_1 (d : Nat) (st : List Value) (σ : am_St) (τ : Int64) (x : Int32) (v0 v2 : Value) : am_run d 125 1 [v0, .int x, v2] st σ τ = am_run d 125 2 [v0, .int x, v2] (.int x :: st) σ τ := rr_iload_n dX10_near_1 rfl
theorem r125_2 (d : Nat) (ls st : List Value) (σ : am_St) (τ : Int64) (k : Nat) (a0 : Int32) (hk : am_kc k = 10) (hc : am_cats st ≤ 8) : am_run (d + 1) 125 2 ls (.int a0 :: .ref k :: st) σ τ = (am_call d 91 [.ref k, .int a0] σ τ).bind (fun r => am_run (d + 1) 125 5 ls (r.1.toList ++ st) r.2.1 r.2.2) := rr_invv [.int a0] dX10_near_2 (by decide +kernel) (by decide) rfl (Nat.le_of_ble_eq_true rfl) hk hc
theorem r125_5 (d : Nat) (ls st : List Value) (σ : am_St) (τ : Int64) (x : Int32) : am_run d 125 5 ls (.int x :: st) σ τ = if x = 0 then am_run d 125 25 ls st σ τ else am_run d 125 8 ls st σ τ := (rr_if 25 dX10_near_5 (by decide)).trans am_sel
theorem r125_8 (d : Nat) (st : List Value) (σ : am_St) (τ : Int64) (x : Nat) (v1 v2 : Value) : am_run d 125 8 [.ref x, v1, v2] st σ τ = am_run d 125 9 [.ref x, v1, v2] (.ref x :: st) σ τ := rr_aload_n dX10_near_8 rfl
theorem r125_9 (d : Nat) (st : List Value) (σ : am_St) (τ : Int64) (x : Int32) (v0 v1 : Value) : am_run d 125 9 [v0, v1, .int x] st σ τ = am_run d 125 10 [v0, v1, .int x] (.int x :: st) σ τ := rr_iload_n dX10_near_9 rfl
theorem r125_10 (d : Nat) (ls st : List Value) (σ : am_St) (τ : Int64) (k : Nat) (a0 : Int32) (hk : am_kc k = 10) (hc : am_cats st ≤ 8) : am_run (d + 1) 125 10 ls (.int a0 :: .ref k :: st) σ τ = (am_call d 91 [.ref k, .int a0] σ τ).bind (fun r => am_run (d + 1) 125 13 ls (r.1.toList ++ st) r.2.1 r.2.2) := rr_invv [.int a0] dX10_near_10 (by decide +kernel) (by decide) rfl (Nat.le_of_ble_eq_true rfl) hk hc
theorem r125_13 (d : Nat) (ls st : List Value) (σ : am_St) (τ : Int64) (x : Int32) : am_run d 125 13 ls (.int x :: st) σ τ = if x = 0 then am_run d 125 25 ls st σ τ else am_run d 125 16 ls st σ τ := (rr_if 25 dX10_near_13 (by decide)).trans am_sel
theorem r125_16 (d : Nat) (st : List Value) (σ : am_St) (τ : Int64) (x : Nat) (v1 v2 : Value) : am_run d 125 16 [.ref x, v1, v2] st σ τ = am_run d 125 17 [.ref x, v1, v2] (.ref x :: st) σ τ := rr_aload_n dX10_near_16 rfl
theorem r125_17 (d : Nat) (st : List Value) (σ : am_St) (τ : Int64) (x : Int32) (v0 v2 : Value) : am_run d 125 17 [v0, .int x, v2] st σ τ = am_run d 125 18 [v0, .int x, v2] (.int x :: st) σ τ := rr_iload_n dX10_near_17 rfl
theorem r125_18 (d : Nat) (st : List Value) (σ : am_St) (τ : Int64) (x : Int32) (v0 v1 : Value) : am_run d 125 18 [v0, v1, .int x] st σ τ = am_run d 125 19 [v0, v1, .int x] (.int x :: st) σ τ := rr_iload_n dX10_near_18 rfl
theorem r125_19 (d : Nat) (ls st : List Value) (σ : am_St) (τ : Int64) (k : Nat) (a0 : Int32) (a1 : Int32) (hk : am_kc k = 10) (hc : am_cats st ≤ 8) : am_run (d + 1) 125 19 ls (.int a1 :: .int a0 :: .ref k :: st) σ τ = (am_call d 124 [.ref k, .int a0, .int a1] σ τ).bind (fun r => am_run (d + 1) 125 22 ls (r.1.toList ++ st) r.2.1 r.2.2) := rr_invv [.int a0, .int a1] dX10_near_19 (by decide +kernel) (by decide) rfl (Nat.le_of_ble_eq_true rfl) hk hc
theorem r125_22 (d : Nat) (ls st : List Value) (σ : am_St) (τ : Int64) : am_run d 125 22 ls st σ τ = am_run d 125 27 ls st σ τ := rr_goto 27 dX10_near_22 (by decide)
theorem r125_25 (d : Nat) (ls st : List Value) (σ : am_St) (τ : Int64) : am_run d 125 25 ls st σ τ = am_run d 125 27 ls (.int (-101) :: st) σ τ := rr_bipush (-101) dX10_near_25 (by decide)
theorem r125_27 (d : Nat) (ls : List Value) (σ : am_St) (τ : Int64) (x : Int32) : am_run d 125 27 ls [.int x] σ τ = some (some (.int x), σ, τ) := rr_iret dX10_near_27 rfl
theorem dX10_kinOf_0 : decode (am_code 126) 0 = .ok (.iconst (-1), 1) := by decide +kernel
theorem dX10_kinOf_1 : decode (am_code 126) 1 = .ok (.istore_n 2, 1) := by decide +kernel
theorem dX10_kinOf_2 : decode (am_code 126) 2 = .ok (.sipush 1000, 3) := by decide +kernel
theorem dX10_kinOf_5 : decode (am_code 126) 5 = .ok (.istore_n 3, 1) := by decide +kernel
theorem dX10_kinOf_6 : decode (am_code 126) 6 = .ok (.iconst 0, 1) := by decide +kernel
theorem dX10_kinOf_7 : decode (am_code 126) 7 = .ok (.istore 4, 2) := by decide +kernel
theorem dX10_kinOf_9 : decode (am_code 126) 9 = .ok (.iload 4, 2) := by decide +kernel
theorem dX10_kinOf_11 : decode (am_code 126) 11 = .ok (.aload_n 0, 1) := by decide +kernel
theorem dX10_kinOf_12 : decode (am_code 126) 12 = .ok (.getfield 129, 3) := by decide +kernel
theorem dX10_kinOf_15 : decode (am_code 126) 15 = .ok (.if_icmp .ge 76, 3) := by decide +kernel
theorem dX10_kinOf_18 : decode (am_code 126) 18 = .ok (.iload 4, 2) := by decide +kernel
theorem dX10_kinOf_20 : decode (am_code 126) 20 = .ok (.iload_n 1, 1) := by decide +kernel
theorem dX10_kinOf_21 : decode (am_code 126) 21 = .ok (.if_icmp .eq 13, 3) := by decide +kernel
theorem dX10_kinOf_24 : decode (am_code 126) 24 = .ok (.aload_n 0, 1) := by decide +kernel
theorem dX10_kinOf_25 : decode (am_code 126) 25 = .ok (.getfield 37, 3) := by decide +kernel
theorem dX10_kinOf_28 : decode (am_code 126) 28 = .ok (.iload 4, 2) := by decide +kernel
theorem dX10_kinOf_30 : decode (am_code 126) 30 = .ok (.iaload, 1) := by decide +kernel
theorem dX10_kinOf_31 : decode (am_code 126) 31 = .ok (.ifCond .ne 7, 3) := by decide +kernel
theorem dX10_kinOf_34 : decode (am_code 126) 34 = .ok (.iconst (-1), 1) := by decide +kernel
theorem dX10_kinOf_35 : decode (am_code 126) 35 = .ok (.goto 10, 3) := by decide +kernel
theorem dX10_kinOf_38 : decode (am_code 126) 38 = .ok (.aload_n 0, 1) := by decide +kernel
theorem dX10_kinOf_39 : decode (am_code 126) 39 = .ok (.iload_n 1, 1) := by decide +kernel
theorem dX10_kinOf_40 : decode (am_code 126) 40 = .ok (.iload 4, 2) := by decide +kernel
theorem dX10_kinOf_42 : decode (am_code 126) 42 = .ok (.invokevirtual 215, 3) := by decide +kernel
theorem dX10_kinOf_45 : decode (am_code 126) 45 = .ok (.istore 5, 2) := by decide +kernel
theorem dX10_kinOf_47 : decode (am_code 126) 47 = .ok (.iload 5, 2) := by decide +kernel
theorem dX10_kinOf_49 : decode (am_code 126) 49 = .ok (.iconst (-1), 1) := by decide +kernel
theorem dX10_kinOf_50 : decode (am_code 126) 50 = .ok (.if_icmp .eq 14, 3) := by decide +kernel
theorem dX10_kinOf_53 : decode (am_code 126) 53 = .ok (.iload 5, 2) := by decide +kernel
theorem dX10_kinOf_55 : decode (am_code 126) 55 = .ok (.iload_n 3, 1) := by decide +kernel
theorem dX10_kinOf_56 : decode (am_code 126) 56 = .ok (.if_icmp .ge 8, 3) := by decide +kernel
theorem dX10_kinOf_59 : decode (am_code 126) 59 = .ok (.iload 4, 2) := by decide +kernel
theorem dX10_kinOf_61 : decode (am_code 126) 61 = .ok (.goto 4, 3) := by decide +kernel
theorem dX10_kinOf_64 : decode (am_code 126) 64 = .ok (.iload_n 2, 1) := by decide +kernel
theorem dX10_kinOf_65 : decode (am_code 126) 65 = .ok (.istore_n 2, 1) := by decide +kernel
theorem dX10_kinOf_66 : decode (am_code 126) 66 = .ok (.iload 5, 2) := by decide +kernel
theorem dX10_kinOf_68 : decode (am_code 126) 68 = .ok (.iconst (-1), 1) := by decide +kernel
theorem dX10_kinOf_69 : decode (am_code 126) 69 = .ok (.if_icmp .eq 14, 3) := by decide +kernel
theorem dX10_kinOf_72 : decode (am_code 126) 72 = .ok (.iload 5, 2) := by decide +kernel
theorem dX10_kinOf_74 : decode (am_code 126) 74 = .ok (.iload_n 3, 1) := by decide +kernel
theorem dX10_kinOf_75 : decode (am_code 126) 75 = .ok (.if_icmp .ge 8, 3) := by decide +kernel
theorem dX10_kinOf_78 : decode (am_code 126) 78 = .ok (.iload 5, 2) := by decide +kernel
theorem dX10_kinOf_80 : decode (am_code 126) 80 = .ok (.goto 4, 3) := by decide +kernel
theorem dX10_kinOf_83 : decode (am_code 126) 83 = .ok (.iload_n 3, 1) := by decide +kernel
theorem dX10_kinOf_84 : decode (am_code 126) 84 = .ok (.istore_n 3, 1) := by decide +kernel
theorem dX10_kinOf_85 : decode (am_code 126) 85 = .ok (.iinc 4 1, 3) := by decide +kernel
theorem dX10_kinOf_88 : decode (am_code 126) 88 = .ok (.goto (-79), 3) := by decide +kernel
theorem dX10_kinOf_91 : decode (am_code 126) 91 = .ok (.iload_n 2, 1) := by decide +kernel
theorem dX10_kinOf_92 : decode (am_code 126) 92 = .ok (.ireturn, 1) := by decide +kernel
theorem r126_0 (d : Nat) (ls st : List Value) (σ : am_St) (τ : Int64) : am_run d 126 0 ls st σ τ = am_run d 126 1 ls (.int (-1) :: st) σ τ := rr_iconst (-1) dX10_kinOf_0 (by decide)
theorem r126_1 (d : Nat) (st : List Value) (σ : am_St) (τ : Int64) (x : Int32) (v0 v1 v2 v3 v4 v5 : Value) : am_run d 126 1 [v0, v1, v2, v3, v4, v5] (.int x :: st) σ τ = am_run d 126 2 [v0, am_nl v1, .int x, v3, v4, v5] st σ τ := rr_istore_n _ dX10_kinOf_1 (by decide) (by first | rfl | (by_cases h : v1.category = 2 <;> simp [am_set1, am_nl, h]))
theorem r126_2 (d : Nat) (ls st : List Value) (σ : am_St) (τ : Int64) : am_run d 126 2 ls st σ τ = am_run d 126 5 ls (.int 1000 :: st) σ τ := rr_sipush 1000 dX10_kinOf_2 (by decide)
theorem r126_5 (d : Nat) (st : List Value) (σ : am_St) (τ : Int64) (x : Int32) (v0 v1 v2 v3 v4 v5 : Value) : am_run d 126 5 [v0, v1, v2, v3, v4, v5] (.int x :: st) σ τ = am_run d 126 6 [v0, v1, am_nl v2, .int x, v4, v5] st σ τ := rr_istore_n _ dX10_kinOf_5 (by decide) (by first | rfl | (by_cases h : v2.category = 2 <;> simp [am_set1, am_nl, h]))
theorem r126_6 (d : Nat) (ls st : List Value) (σ : am_St) (τ : Int64) : am_run d 126 6 ls st σ τ = am_run d 126 7 ls (.int 0 :: st) σ τ := rr_iconst 0 dX10_kinOf_6 (by decide)
theorem r126_7 (d : Nat) (st : List Value) (σ : am_St) (τ : Int64) (x : Int32) (v0 v1 v2 v3 v4 v5 : Value) : am_run d 126 7 [v0, v1, v2, v3, v4, v5] (.int x :: st) σ τ = am_run d 126 9 [v0, v1, v2, am_nl v3, .int x, v5] st σ τ := rr_istore _ dX10_kinOf_7 (by decide) (by first | rfl | (by_cases h : v3.category = 2 <;> simp [am_set1, am_nl, h]))
theorem r126_9 (d : Nat) (st : List Value) (σ : am_St) (τ : Int64) (x : Int32) (v0 v1 v2 v3 v5 : Value) : am_run d 126 9 [v0, v1, v2, v3, .int x, v5] st σ τ = am_run d 126 11 [v0, v1, v2, v3, .int x, v5] (.int x :: st) σ τ := rr_iload dX10_kinOf_9 rfl
theorem r126_11 (d : Nat) (st : List Value) (σ : am_St) (τ : Int64) (x : Nat) (v1 v2 v3 v4 v5 : Value) : am_run d 126 11 [.ref x, v1, v2, v3, v4, v5] st σ τ = am_run d 126 12 [.ref x, v1, v2, v3, v4, v5] (.ref x :: st) σ τ := rr_aload_n dX10_kinOf_11 rfl
theorem r126_12 (d : Nat) (ls st : List Value) (σ : am_St) (τ : Int64) (k : Nat) : am_run d 126 12 ls (.ref k :: st) σ τ = am_gf k 10 6 σ τ (fun v => am_run d 126 15 ls (v :: st) σ τ) := rr_getf dX10_kinOf_12 (by decide +kernel)
theorem r126_15 (d : Nat) (ls st : List Value) (σ : am_St) (τ : Int64) (x y : Int32) : am_run d 126 15 ls (.int y :: .int x :: st) σ τ = if y ≤ x then am_run d 126 91 ls st σ τ else am_run d 126 18 ls st σ τ := (rr_icmp 91 dX10_kinOf_15 (by decide)).trans am_sel
theorem r126_18 (d : Nat) (st : List Value) (σ : am_St) (τ : Int64) (x : Int32) (v0 v1 v2 v3 v5 : Value) : am_run d 126 18 [v0, v1, v2, v3, .int x, v5] st σ τ = am_run d 126 20 [v0, v1, v2, v3, .int x, v5] (.int x :: st) σ τ := rr_iload dX10_kinOf_18 rfl
theorem r126_20 (d : Nat) (st : List Value) (σ : am_St) (τ : Int64) (x : Int32) (v0 v2 v3 v4 v5 : Value) : am_run d 126 20 [v0, .int x, v2, v3, v4, v5] st σ τ = am_run d 126 21 [v0, .int x, v2, v3, v4, v5] (.int x :: st) σ τ := rr_iload_n dX10_kinOf_20 rfl
theorem r126_21 (d : Nat) (ls st : List Value) (σ : am_St) (τ : Int64) (x y : Int32) : am_run d 126 21 ls (.int y :: .int x :: st) σ τ = if x = y then am_run d 126 34 ls st σ τ else am_run d 126 24 ls st σ τ := (rr_icmp 34 dX10_kinOf_21 (by decide)).trans am_sel
theorem r126_24 (d : Nat) (st : List Value) (σ : am_St) (τ : Int64) (x : Nat) (v1 v2 v3 v4 v5 : Value) : am_run d 126 24 [.ref x, v1, v2, v3, v4, v5] st σ τ = am_run d 126 25 [.ref x, v1, v2, v3, v4, v5] (.ref x :: st) σ τ := rr_aload_n dX10_kinOf_24 rfl
theorem r126_25 (d : Nat) (ls st : List Value) (σ : am_St) (τ : Int64) (k : Nat) : am_run d 126 25 ls (.ref k :: st) σ τ = am_gf k 10 14 σ τ (fun v => am_run d 126 28 ls (v :: st) σ τ) := rr_getf dX10_kinOf_25 (by decide +kernel)
theorem r126_28 (d : Nat) (st : List Value) (σ : am_St) (τ : Int64) (x : Int32) (v0 v1 v2 v3 v5 : Value) : am_run d 126 28 [v0, v1, v2, v3, .int x, v5] st σ τ = am_run d 126 30 [v0, v1, v2, v3, .int x, v5] (.int x :: st) σ τ := rr_iload dX10_kinOf_28 rfl
theorem r126_30 (d : Nat) (ls st : List Value) (σ : am_St) (τ : Int64) (i : Int32) (k : Nat) : am_run d 126 30 ls (.int i :: .ref k :: st) σ τ = am_ai false k i (fun j => am_run d 126 31 ls (.int (σ k j) :: st) σ τ) := rr_iald dX10_kinOf_30
theorem r126_31 (d : Nat) (ls st : List Value) (σ : am_St) (τ : Int64) (x : Int32) : am_run d 126 31 ls (.int x :: st) σ τ = if x = 0 then am_run d 126 34 ls st σ τ else am_run d 126 38 ls st σ τ := (rr_if 38 dX10_kinOf_31 (by decide)).trans am_seln
theorem r126_34 (d : Nat) (ls st : List Value) (σ : am_St) (τ : Int64) : am_run d 126 34 ls st σ τ = am_run d 126 35 ls (.int (-1) :: st) σ τ := rr_iconst (-1) dX10_kinOf_34 (by decide)
theorem r126_35 (d : Nat) (ls st : List Value) (σ : am_St) (τ : Int64) : am_run d 126 35 ls st σ τ = am_run d 126 45 ls st σ τ := rr_goto 45 dX10_kinOf_35 (by decide)
theorem r126_38 (d : Nat) (st : List Value) (σ : am_St) (τ : Int64) (x : Nat) (v1 v2 v3 v4 v5 : Value) : am_run d 126 38 [.ref x, v1, v2, v3, v4, v5] st σ τ = am_run d 126 39 [.ref x, v1, v2, v3, v4, v5] (.ref x :: st) σ τ := rr_aload_n dX10_kinOf_38 rfl
theorem r126_39 (d : Nat) (st : List Value) (σ : am_St) (τ : Int64) (x : Int32) (v0 v2 v3 v4 v5 : Value) : am_run d 126 39 [v0, .int x, v2, v3, v4, v5] st σ τ = am_run d 126 40 [v0, .int x, v2, v3, v4, v5] (.int x :: st) σ τ := rr_iload_n dX10_kinOf_39 rfl
theorem r126_40 (d : Nat) (st : List Value) (σ : am_St) (τ : Int64) (x : Int32) (v0 v1 v2 v3 v5 : Value) : am_run d 126 40 [v0, v1, v2, v3, .int x, v5] st σ τ = am_run d 126 42 [v0, v1, v2, v3, .int x, v5] (.int x :: st) σ τ := rr_iload dX10_kinOf_40 rfl
theorem r126_42 (d : Nat) (ls st : List Value) (σ : am_St) (τ : Int64) (k : Nat) (a0 : Int32) (a1 : Int32) (hk : am_kc k = 10) (hc : am_cats st ≤ 8) : am_run (d + 1) 126 42 ls (.int a1 :: .int a0 :: .ref k :: st) σ τ = (am_call d 124 [.ref k, .int a0, .int a1] σ τ).bind (fun r => am_run (d + 1) 126 45 ls (r.1.toList ++ st) r.2.1 r.2.2) := rr_invv [.int a0, .int a1] dX10_kinOf_42 (by decide +kernel) (by decide) rfl (Nat.le_of_ble_eq_true rfl) hk hc
theorem r126_45 (d : Nat) (st : List Value) (σ : am_St) (τ : Int64) (x : Int32) (v0 v1 v2 v3 v4 v5 : Value) : am_run d 126 45 [v0, v1, v2, v3, v4, v5] (.int x :: st) σ τ = am_run d 126 47 [v0, v1, v2, v3, am_nl v4, .int x] st σ τ := rr_istore _ dX10_kinOf_45 (by decide) (by first | rfl | (by_cases h : v4.category = 2 <;> simp [am_set1, am_nl, h]))
theorem r126_47 (d : Nat) (st : List Value) (σ : am_St) (τ : Int64) (x : Int32) (v0 v1 v2 v3 v4 : Value) : am_run d 126 47 [v0, v1, v2, v3, v4, .int x] st σ τ = am_run d 126 49 [v0, v1, v2, v3, v4, .int x] (.int x :: st) σ τ := rr_iload dX10_kinOf_47 rfl
theorem r126_49 (d : Nat) (ls st : List Value) (σ : am_St) (τ : Int64) : am_run d 126 49 ls st σ τ = am_run d 126 50 ls (.int (-1) :: st) σ τ := rr_iconst (-1) dX10_kinOf_49 (by decide)
theorem r126_50 (d : Nat) (ls st : List Value) (σ : am_St) (τ : Int64) (x y : Int32) : am_run d 126 50 ls (.int y :: .int x :: st) σ τ = if x = y then am_run d 126 64 ls st σ τ else am_run d 126 53 ls st σ τ := (rr_icmp 64 dX10_kinOf_50 (by decide)).trans am_sel
theorem r126_53 (d : Nat) (st : List Value) (σ : am_St) (τ : Int64) (x : Int32) (v0 v1 v2 v3 v4 : Value) : am_run d 126 53 [v0, v1, v2, v3, v4, .int x] st σ τ = am_run d 126 55 [v0, v1, v2, v3, v4, .int x] (.int x :: st) σ τ := rr_iload dX10_kinOf_53 rfl
theorem r126_55 (d : Nat) (st : List Value) (σ : am_St) (τ : Int64) (x : Int32) (v0 v1 v2 v4 v5 : Value) : am_run d 126 55 [v0, v1, v2, .int x, v4, v5] st σ τ = am_run d 126 56 [v0, v1, v2, .int x, v4, v5] (.int x :: st) σ τ := rr_iload_n dX10_kinOf_55 rfl
theorem r126_56 (d : Nat) (ls st : List Value) (σ : am_St) (τ : Int64) (x y : Int32) : am_run d 126 56 ls (.int y :: .int x :: st) σ τ = if y ≤ x then am_run d 126 64 ls st σ τ else am_run d 126 59 ls st σ τ := (rr_icmp 64 dX10_kinOf_56 (by decide)).trans am_sel
theorem r126_59 (d : Nat) (st : List Value) (σ : am_St) (τ : Int64) (x : Int32) (v0 v1 v2 v3 v5 : Value) : am_run d 126 59 [v0, v1, v2, v3, .int x, v5] st σ τ = am_run d 126 61 [v0, v1, v2, v3, .int x, v5] (.int x :: st) σ τ := rr_iload dX10_kinOf_59 rfl
theorem r126_61 (d : Nat) (ls st : List Value) (σ : am_St) (τ : Int64) : am_run d 126 61 ls st σ τ = am_run d 126 65 ls st σ τ := rr_goto 65 dX10_kinOf_61 (by decide)
theorem r126_64 (d : Nat) (st : List Value) (σ : am_St) (τ : Int64) (x : Int32) (v0 v1 v3 v4 v5 : Value) : am_run d 126 64 [v0, v1, .int x, v3, v4, v5] st σ τ = am_run d 126 65 [v0, v1, .int x, v3, v4, v5] (.int x :: st) σ τ := rr_iload_n dX10_kinOf_64 rfl
theorem r126_65 (d : Nat) (st : List Value) (σ : am_St) (τ : Int64) (x : Int32) (v0 v1 v2 v3 v4 v5 : Value) : am_run d 126 65 [v0, v1, v2, v3, v4, v5] (.int x :: st) σ τ = am_run d 126 66 [v0, am_nl v1, .int x, v3, v4, v5] st σ τ := rr_istore_n _ dX10_kinOf_65 (by decide) (by first | rfl | (by_cases h : v1.category = 2 <;> simp [am_set1, am_nl, h]))
theorem r126_66 (d : Nat) (st : List Value) (σ : am_St) (τ : Int64) (x : Int32) (v0 v1 v2 v3 v4 : Value) : am_run d 126 66 [v0, v1, v2, v3, v4, .int x] st σ τ = am_run d 126 68 [v0, v1, v2, v3, v4, .int x] (.int x :: st) σ τ := rr_iload dX10_kinOf_66 rfl
theorem r126_68 (d : Nat) (ls st : List Value) (σ : am_St) (τ : Int64) : am_run d 126 68 ls st σ τ = am_run d 126 69 ls (.int (-1) :: st) σ τ := rr_iconst (-1) dX10_kinOf_68 (by decide)
theorem r126_69 (d : Nat) (ls st : List Value) (σ : am_St) (τ : Int64) (x y : Int32) : am_run d 126 69 ls (.int y :: .int x :: st) σ τ = if x = y then am_run d 126 83 ls st σ τ else am_run d 126 72 ls st σ τ := (rr_icmp 83 dX10_kinOf_69 (by decide)).trans am_sel
theorem r126_72 (d : Nat) (st : List Value) (σ : am_St) (τ : Int64) (x : Int32) (v0 v1 v2 v3 v4 : Value) : am_run d 126 72 [v0, v1, v2, v3, v4, .int x] st σ τ = am_run d 126 74 [v0, v1, v2, v3, v4, .int x] (.int x :: st) σ τ := rr_iload dX10_kinOf_72 rfl
theorem r126_74 (d : Nat) (st : List Value) (σ : am_St) (τ : Int64) (x : Int32) (v0 v1 v2 v4 v5 : Value) : am_run d 126 74 [v0, v1, v2, .int x, v4, v5] st σ τ = am_run d 126 75 [v0, v1, v2, .int x, v4, v5] (.int x :: st) σ τ := rr_iload_n dX10_kinOf_74 rfl
theorem r126_75 (d : Nat) (ls st : List Value) (σ : am_St) (τ : Int64) (x y : Int32) : am_run d 126 75 ls (.int y :: .int x :: st) σ τ = if y ≤ x then am_run d 126 83 ls st σ τ else am_run d 126 78 ls st σ τ := (rr_icmp 83 dX10_kinOf_75 (by decide)).trans am_sel
theorem r126_78 (d : Nat) (st : List Value) (σ : am_St) (τ : Int64) (x : Int32) (v0 v1 v2 v3 v4 : Value) : am_run d 126 78 [v0, v1, v2, v3, v4, .int x] st σ τ = am_run d 126 80 [v0, v1, v2, v3, v4, .int x] (.int x :: st) σ τ := rr_iload dX10_kinOf_78 rfl
theorem r126_80 (d : Nat) (ls st : List Value) (σ : am_St) (τ : Int64) : am_run d 126 80 ls st σ τ = am_run d 126 84 ls st σ τ := rr_goto 84 dX10_kinOf_80 (by decide)
theorem r126_83 (d : Nat) (st : List Value) (σ : am_St) (τ : Int64) (x : Int32) (v0 v1 v2 v4 v5 : Value) : am_run d 126 83 [v0, v1, v2, .int x, v4, v5] st σ τ = am_run d 126 84 [v0, v1, v2, .int x, v4, v5] (.int x :: st) σ τ := rr_iload_n dX10_kinOf_83 rfl
theorem r126_84 (d : Nat) (st : List Value) (σ : am_St) (τ : Int64) (x : Int32) (v0 v1 v2 v3 v4 v5 : Value) : am_run d 126 84 [v0, v1, v2, v3, v4, v5] (.int x :: st) σ τ = am_run d 126 85 [v0, v1, am_nl v2, .int x, v4, v5] st σ τ := rr_istore_n _ dX10_kinOf_84 (by decide) (by first | rfl | (by_cases h : v2.category = 2 <;> simp [am_set1, am_nl, h]))
theorem r126_85 (d : Nat) (st : List Value) (σ : am_St) (τ : Int64) (x : Int32) (v0 v1 v2 v3 v5 : Value) : am_run d 126 85 [v0, v1, v2, v3, .int x, v5] st σ τ = am_run d 126 88 [v0, v1, v2, am_nl v3, .int (x + 1), v5] st σ τ := rr_iinc 1 _ dX10_kinOf_85 rfl (by decide) (by decide) (by first | rfl | (by_cases h : v3.category = 2 <;> simp [am_set1, am_nl, h]))
theorem r126_88 (d : Nat) (ls st : List Value) (σ : am_St) (τ : Int64) : am_run d 126 88 ls st σ τ = am_run d 126 9 ls st σ τ := rr_goto 9 dX10_kinOf_88 (by decide)
theorem r126_91 (d : Nat) (st : List Value) (σ : am_St) (τ : Int64) (x : Int32) (v0 v1 v3 v4 v5 : Value) : am_run d 126 91 [v0, v1, .int x, v3, v4, v5] st σ τ = am_run d 126 92 [v0, v1, .int x, v3, v4, v5] (.int x :: st) σ τ := rr_iload_n dX10_kinOf_91 rfl
theorem r126_92 (d : Nat) (ls : List Value) (σ : am_St) (τ : Int64) (x : Int32) : am_run d 126 92 ls [.int x] σ τ = some (some (.int x), σ, τ) := rr_iret dX10_kinOf_92 rfl
theorem dX10_kin_0 : decode (am_code 127) 0 = .ok (.aload_n 0, 1) := by decide +kernel
theorem dX10_kin_1 : decode (am_code 127) 1 = .ok (.iload_n 1, 1) := by decide +kernel
theorem dX10_kin_2 : decode (am_code 127) 2 = .ok (.invokevirtual 138, 3) := by decide +kernel
theorem dX10_kin_5 : decode (am_code 127) 5 = .ok (.ifCond .eq 11, 3) := by decide +kernel
theorem dX10_kin_8 : decode (am_code 127) 8 = .ok (.aload_n 0, 1) := by decide +kernel
theorem dX10_kin_9 : decode (am_code 127) 9 = .ok (.iload_n 1, 1) := by decide +kernel
theorem dX10_kin_10 : decode (am_code 127) 10 = .ok (.invokevirtual 218, 3) := by decide +kernel
theorem dX10_kin_13 : decode (am_code 127) 13 = .ok (.goto 5, 3) := by decide +kernel
theorem dX10_kin_16 : decode (am_code 127) 16 = .ok (.bipush (-101), 2) := by decide +kernel
theorem dX10_kin_18 : decode (am_code 127) 18 = .ok (.ireturn, 1) := by decide +kernel
theorem r127_0 (d : Nat) (st : List Value) (σ : am_St) (τ : Int64) (x : Nat) (v1 : Value) : am_run d 127 0 [.ref x, v1] st σ τ = am_run d 127 1 [.ref x, v1] (.ref x :: st) σ τ := rr_aload_n dX10_kin_0 rfl
theorem r127_1 (d : Nat) (st : List Value) (σ : am_St) (τ : Int64) (x : Int32) (v0 : Value) : am_run d 127 1 [v0, .int x] st σ τ = am_run d 127 2 [v0, .int x] (.int x :: st) σ τ := rr_iload_n dX10_kin_1 rfl
theorem r127_2 (d : Nat) (ls st : List Value) (σ : am_St) (τ : Int64) (k : Nat) (a0 : Int32) (hk : am_kc k = 10) (hc : am_cats st ≤ 8) : am_run (d + 1) 127 2 ls (.int a0 :: .ref k :: st) σ τ = (am_call d 91 [.ref k, .int a0] σ τ).bind (fun r => am_run (d + 1) 127 5 ls (r.1.toList ++ st) r.2.1 r.2.2) := rr_invv [.int a0] dX10_kin_2 (by decide +kernel) (by decide) rfl (Nat.le_of_ble_eq_true rfl) hk hc
theorem r127_5 (d : Nat) (ls st : List Value) (σ : am_St) (τ : Int64) (x : Int32) : am_run d 127 5 ls (.int x :: st) σ τ = if x = 0 then am_run d 127 16 ls st σ τ else am_run d 127 8 ls st σ τ := (rr_if 16 dX10_kin_5 (by decide)).trans am_sel
theorem r127_8 (d : Nat) (st : List Value) (σ : am_St) (τ : Int64) (x : Nat) (v1 : Value) : am_run d 127 8 [.ref x, v1] st σ τ = am_run d 127 9 [.ref x, v1] (.ref x :: st) σ τ := rr_aload_n dX10_kin_8 rfl
theorem r127_9 (d : Nat) (st : List Value) (σ : am_St) (τ : Int64) (x : Int32) (v0 : Value) : am_run d 127 9 [v0, .int x] st σ τ = am_run d 127 10 [v0, .int x] (.int x :: st) σ τ := rr_iload_n dX10_kin_9 rfl
theorem r127_10 (d : Nat) (ls st : List Value) (σ : am_St) (τ : Int64) (k : Nat) (a0 : Int32) (hk : am_kc k = 10) (hc : am_cats st ≤ 8) : am_run (d + 1) 127 10 ls (.int a0 :: .ref k :: st) σ τ = (am_call d 126 [.ref k, .int a0] σ τ).bind (fun r => am_run (d + 1) 127 13 ls (r.1.toList ++ st) r.2.1 r.2.2) := rr_invv [.int a0] dX10_kin_10 (by decide +kernel) (by decide) rfl (Nat.le_of_ble_eq_true rfl) hk hc
theorem r127_13 (d : Nat) (ls st : List Value) (σ : am_St) (τ : Int64) : am_run d 127 13 ls st σ τ = am_run d 127 18 ls st σ τ := rr_goto 18 dX10_kin_13 (by decide)
theorem r127_16 (d : Nat) (ls st : List Value) (σ : am_St) (τ : Int64) : am_run d 127 16 ls st σ τ = am_run d 127 18 ls (.int (-101) :: st) σ τ := rr_bipush (-101) dX10_kin_16 (by decide)
theorem r127_18 (d : Nat) (ls : List Value) (σ : am_St) (τ : Int64) (x : Int32) : am_run d 127 18 ls [.int x] σ τ = some (some (.int x), σ, τ) := rr_iret dX10_kin_18 rfl
theorem dX10_mayWed_0 : decode (am_code 128) 0 = .ok (.aload_n 0, 1) := by decide +kernel
theorem dX10_mayWed_1 : decode (am_code 128) 1 = .ok (.getfield 22, 3) := by decide +kernel
theorem dX10_mayWed_4 : decode (am_code 128) 4 = .ok (.iload_n 1, 1) := by decide +kernel
theorem dX10_mayWed_5 : decode (am_code 128) 5 = .ok (.iaload, 1) := by decide +kernel
theorem dX10_mayWed_6 : decode (am_code 128) 6 = .ok (.aload_n 0, 1) := by decide +kernel
theorem dX10_mayWed_7 : decode (am_code 128) 7 = .ok (.getfield 22, 3) := by decide +kernel
theorem dX10_mayWed_10 : decode (am_code 128) 10 = .ok (.iload_n 2, 1) := by decide +kernel
theorem dX10_mayWed_11 : decode (am_code 128) 11 = .ok (.iaload, 1) := by decide +kernel
theorem dX10_mayWed_12 : decode (am_code 128) 12 = .ok (.if_icmp .eq 42, 3) := by decide +kernel
theorem dX10_mayWed_15 : decode (am_code 128) 15 = .ok (.aload_n 0, 1) := by decide +kernel
theorem dX10_mayWed_16 : decode (am_code 128) 16 = .ok (.getfield 37, 3) := by decide +kernel
theorem dX10_mayWed_19 : decode (am_code 128) 19 = .ok (.iload_n 1, 1) := by decide +kernel
theorem dX10_mayWed_20 : decode (am_code 128) 20 = .ok (.iaload, 1) := by decide +kernel
theorem dX10_mayWed_21 : decode (am_code 128) 21 = .ok (.iconst 1, 1) := by decide +kernel
theorem dX10_mayWed_22 : decode (am_code 128) 22 = .ok (.if_icmp .ne 32, 3) := by decide +kernel
theorem dX10_mayWed_25 : decode (am_code 128) 25 = .ok (.aload_n 0, 1) := by decide +kernel
theorem dX10_mayWed_26 : decode (am_code 128) 26 = .ok (.getfield 37, 3) := by decide +kernel
theorem dX10_mayWed_29 : decode (am_code 128) 29 = .ok (.iload_n 2, 1) := by decide +kernel
theorem dX10_mayWed_30 : decode (am_code 128) 30 = .ok (.iaload, 1) := by decide +kernel
theorem dX10_mayWed_31 : decode (am_code 128) 31 = .ok (.iconst 1, 1) := by decide +kernel
theorem dX10_mayWed_32 : decode (am_code 128) 32 = .ok (.if_icmp .ne 22, 3) := by decide +kernel
theorem dX10_mayWed_35 : decode (am_code 128) 35 = .ok (.aload_n 0, 1) := by decide +kernel
theorem dX10_mayWed_36 : decode (am_code 128) 36 = .ok (.getfield 43, 3) := by decide +kernel
theorem dX10_mayWed_39 : decode (am_code 128) 39 = .ok (.iload_n 1, 1) := by decide +kernel
theorem dX10_mayWed_40 : decode (am_code 128) 40 = .ok (.iaload, 1) := by decide +kernel
theorem dX10_mayWed_41 : decode (am_code 128) 41 = .ok (.aload_n 0, 1) := by decide +kernel
theorem dX10_mayWed_42 : decode (am_code 128) 42 = .ok (.getfield 43, 3) := by decide +kernel
theorem dX10_mayWed_45 : decode (am_code 128) 45 = .ok (.iload_n 2, 1) := by decide +kernel
theorem dX10_mayWed_46 : decode (am_code 128) 46 = .ok (.iaload, 1) := by decide +kernel
theorem dX10_mayWed_47 : decode (am_code 128) 47 = .ok (.if_icmp .eq 7, 3) := by decide +kernel
theorem dX10_mayWed_50 : decode (am_code 128) 50 = .ok (.iconst 1, 1) := by decide +kernel
theorem dX10_mayWed_51 : decode (am_code 128) 51 = .ok (.goto 4, 3) := by decide +kernel
theorem dX10_mayWed_54 : decode (am_code 128) 54 = .ok (.iconst 0, 1) := by decide +kernel
theorem dX10_mayWed_55 : decode (am_code 128) 55 = .ok (.istore_n 3, 1) := by decide +kernel
theorem dX10_mayWed_56 : decode (am_code 128) 56 = .ok (.iload_n 3, 1) := by decide +kernel
theorem dX10_mayWed_57 : decode (am_code 128) 57 = .ok (.ifCond .eq 12, 3) := by decide +kernel
theorem dX10_mayWed_60 : decode (am_code 128) 60 = .ok (.aload_n 0, 1) := by decide +kernel
theorem dX10_mayWed_61 : decode (am_code 128) 61 = .ok (.iload_n 1, 1) := by decide +kernel
theorem dX10_mayWed_62 : decode (am_code 128) 62 = .ok (.iload_n 2, 1) := by decide +kernel
theorem dX10_mayWed_63 : decode (am_code 128) 63 = .ok (.invokevirtual 215, 3) := by decide +kernel
theorem dX10_mayWed_66 : decode (am_code 128) 66 = .ok (.goto 4, 3) := by decide +kernel
theorem dX10_mayWed_69 : decode (am_code 128) 69 = .ok (.iconst 0, 1) := by decide +kernel
theorem dX10_mayWed_70 : decode (am_code 128) 70 = .ok (.istore 4, 2) := by decide +kernel
theorem dX10_mayWed_72 : decode (am_code 128) 72 = .ok (.iload_n 3, 1) := by decide +kernel
theorem dX10_mayWed_73 : decode (am_code 128) 73 = .ok (.ifCond .eq 19, 3) := by decide +kernel
theorem dX10_mayWed_76 : decode (am_code 128) 76 = .ok (.iload 4, 2) := by decide +kernel
theorem dX10_mayWed_78 : decode (am_code 128) 78 = .ok (.iconst (-1), 1) := by decide +kernel
theorem dX10_mayWed_79 : decode (am_code 128) 79 = .ok (.if_icmp .eq 9, 3) := by decide +kernel
theorem dX10_mayWed_82 : decode (am_code 128) 82 = .ok (.iload 4, 2) := by decide +kernel
theorem dX10_mayWed_84 : decode (am_code 128) 84 = .ok (.iconst 3, 1) := by decide +kernel
theorem dX10_mayWed_85 : decode (am_code 128) 85 = .ok (.if_icmp .le 7, 3) := by decide +kernel
theorem dX10_mayWed_88 : decode (am_code 128) 88 = .ok (.iconst 1, 1) := by decide +kernel
theorem dX10_mayWed_89 : decode (am_code 128) 89 = .ok (.goto 4, 3) := by decide +kernel
theorem dX10_mayWed_92 : decode (am_code 128) 92 = .ok (.iconst 0, 1) := by decide +kernel
theorem dX10_mayWed_93 : decode (am_code 128) 93 = .ok (.ireturn, 1) := by decide +kernel
theorem r128_0 (d : Nat) (st : List Value) (σ : am_St) (τ : Int64) (x : Nat) (v1 v2 v3 v4 : Value) : am_run d 128 0 [.ref x, v1, v2, v3, v4] st σ τ = am_run d 128 1 [.ref x, v1, v2, v3, v4] (.ref x :: st) σ τ := rr_aload_n dX10_mayWed_0 rfl
theorem r128_1 (d : Nat) (ls st : List Value) (σ : am_St) (τ : Int64) (k : Nat) : am_run d 128 1 ls (.ref k :: st) σ τ = am_gf k 10 9 σ τ (fun v => am_run d 128 4 ls (v :: st) σ τ) := rr_getf dX10_mayWed_1 (by decide +kernel)
theorem r128_4 (d : Nat) (st : List Value) (σ : am_St) (τ : Int64) (x : Int32) (v0 v2 v3 v4 : Value) : am_run d 128 4 [v0, .int x, v2, v3, v4] st σ τ = am_run d 128 5 [v0, .int x, v2, v3, v4] (.int x :: st) σ τ := rr_iload_n dX10_mayWed_4 rfl
theorem r128_5 (d : Nat) (ls st : List Value) (σ : am_St) (τ : Int64) (i : Int32) (k : Nat) : am_run d 128 5 ls (.int i :: .ref k :: st) σ τ = am_ai false k i (fun j => am_run d 128 6 ls (.int (σ k j) :: st) σ τ) := rr_iald dX10_mayWed_5
theorem r128_6 (d : Nat) (st : List Value) (σ : am_St) (τ : Int64) (x : Nat) (v1 v2 v3 v4 : Value) : am_run d 128 6 [.ref x, v1, v2, v3, v4] st σ τ = am_run d 128 7 [.ref x, v1, v2, v3, v4] (.ref x :: st) σ τ := rr_aload_n dX10_mayWed_6 rfl
theorem r128_7 (d : Nat) (ls st : List Value) (σ : am_St) (τ : Int64) (k : Nat) : am_run d 128 7 ls (.ref k :: st) σ τ = am_gf k 10 9 σ τ (fun v => am_run d 128 10 ls (v :: st) σ τ) := rr_getf dX10_mayWed_7 (by decide +kernel)
theorem r128_10 (d : Nat) (st : List Value) (σ : am_St) (τ : Int64) (x : Int32) (v0 v1 v3 v4 : Value) : am_run d 128 10 [v0, v1, .int x, v3, v4] st σ τ = am_run d 128 11 [v0, v1, .int x, v3, v4] (.int x :: st) σ τ := rr_iload_n dX10_mayWed_10 rfl
theorem r128_11 (d : Nat) (ls st : List Value) (σ : am_St) (τ : Int64) (i : Int32) (k : Nat) : am_run d 128 11 ls (.int i :: .ref k :: st) σ τ = am_ai false k i (fun j => am_run d 128 12 ls (.int (σ k j) :: st) σ τ) := rr_iald dX10_mayWed_11
theorem r128_12 (d : Nat) (ls st : List Value) (σ : am_St) (τ : Int64) (x y : Int32) : am_run d 128 12 ls (.int y :: .int x :: st) σ τ = if x = y then am_run d 128 54 ls st σ τ else am_run d 128 15 ls st σ τ := (rr_icmp 54 dX10_mayWed_12 (by decide)).trans am_sel
theorem r128_15 (d : Nat) (st : List Value) (σ : am_St) (τ : Int64) (x : Nat) (v1 v2 v3 v4 : Value) : am_run d 128 15 [.ref x, v1, v2, v3, v4] st σ τ = am_run d 128 16 [.ref x, v1, v2, v3, v4] (.ref x :: st) σ τ := rr_aload_n dX10_mayWed_15 rfl
theorem r128_16 (d : Nat) (ls st : List Value) (σ : am_St) (τ : Int64) (k : Nat) : am_run d 128 16 ls (.ref k :: st) σ τ = am_gf k 10 14 σ τ (fun v => am_run d 128 19 ls (v :: st) σ τ) := rr_getf dX10_mayWed_16 (by decide +kernel)
theorem r128_19 (d : Nat) (st : List Value) (σ : am_St) (τ : Int64) (x : Int32) (v0 v2 v3 v4 : Value) : am_run d 128 19 [v0, .int x, v2, v3, v4] st σ τ = am_run d 128 20 [v0, .int x, v2, v3, v4] (.int x :: st) σ τ := rr_iload_n dX10_mayWed_19 rfl
theorem r128_20 (d : Nat) (ls st : List Value) (σ : am_St) (τ : Int64) (i : Int32) (k : Nat) : am_run d 128 20 ls (.int i :: .ref k :: st) σ τ = am_ai false k i (fun j => am_run d 128 21 ls (.int (σ k j) :: st) σ τ) := rr_iald dX10_mayWed_20
theorem r128_21 (d : Nat) (ls st : List Value) (σ : am_St) (τ : Int64) : am_run d 128 21 ls st σ τ = am_run d 128 22 ls (.int 1 :: st) σ τ := rr_iconst 1 dX10_mayWed_21 (by decide)
theorem r128_22 (d : Nat) (ls st : List Value) (σ : am_St) (τ : Int64) (x y : Int32) : am_run d 128 22 ls (.int y :: .int x :: st) σ τ = if x = y then am_run d 128 25 ls st σ τ else am_run d 128 54 ls st σ τ := (rr_icmp 54 dX10_mayWed_22 (by decide)).trans am_seln
theorem r128_25 (d : Nat) (st : List Value) (σ : am_St) (τ : Int64) (x : Nat) (v1 v2 v3 v4 : Value) : am_run d 128 25 [.ref x, v1, v2, v3, v4] st σ τ = am_run d 128 26 [.ref x, v1, v2, v3, v4] (.ref x :: st) σ τ := rr_aload_n dX10_mayWed_25 rfl
theorem r128_26 (d : Nat) (ls st : List Value) (σ : am_St) (τ : Int64) (k : Nat) : am_run d 128 26 ls (.ref k :: st) σ τ = am_gf k 10 14 σ τ (fun v => am_run d 128 29 ls (v :: st) σ τ) := rr_getf dX10_mayWed_26 (by decide +kernel)
theorem r128_29 (d : Nat) (st : List Value) (σ : am_St) (τ : Int64) (x : Int32) (v0 v1 v3 v4 : Value) : am_run d 128 29 [v0, v1, .int x, v3, v4] st σ τ = am_run d 128 30 [v0, v1, .int x, v3, v4] (.int x :: st) σ τ := rr_iload_n dX10_mayWed_29 rfl
theorem r128_30 (d : Nat) (ls st : List Value) (σ : am_St) (τ : Int64) (i : Int32) (k : Nat) : am_run d 128 30 ls (.int i :: .ref k :: st) σ τ = am_ai false k i (fun j => am_run d 128 31 ls (.int (σ k j) :: st) σ τ) := rr_iald dX10_mayWed_30
theorem r128_31 (d : Nat) (ls st : List Value) (σ : am_St) (τ : Int64) : am_run d 128 31 ls st σ τ = am_run d 128 32 ls (.int 1 :: st) σ τ := rr_iconst 1 dX10_mayWed_31 (by decide)
theorem r128_32 (d : Nat) (ls st : List Value) (σ : am_St) (τ : Int64) (x y : Int32) : am_run d 128 32 ls (.int y :: .int x :: st) σ τ = if x = y then am_run d 128 35 ls st σ τ else am_run d 128 54 ls st σ τ := (rr_icmp 54 dX10_mayWed_32 (by decide)).trans am_seln
theorem r128_35 (d : Nat) (st : List Value) (σ : am_St) (τ : Int64) (x : Nat) (v1 v2 v3 v4 : Value) : am_run d 128 35 [.ref x, v1, v2, v3, v4] st σ τ = am_run d 128 36 [.ref x, v1, v2, v3, v4] (.ref x :: st) σ τ := rr_aload_n dX10_mayWed_35 rfl
theorem r128_36 (d : Nat) (ls st : List Value) (σ : am_St) (τ : Int64) (k : Nat) : am_run d 128 36 ls (.ref k :: st) σ τ = am_gf k 10 16 σ τ (fun v => am_run d 128 39 ls (v :: st) σ τ) := rr_getf dX10_mayWed_36 (by decide +kernel)
theorem r128_39 (d : Nat) (st : List Value) (σ : am_St) (τ : Int64) (x : Int32) (v0 v2 v3 v4 : Value) : am_run d 128 39 [v0, .int x, v2, v3, v4] st σ τ = am_run d 128 40 [v0, .int x, v2, v3, v4] (.int x :: st) σ τ := rr_iload_n dX10_mayWed_39 rfl
theorem r128_40 (d : Nat) (ls st : List Value) (σ : am_St) (τ : Int64) (i : Int32) (k : Nat) : am_run d 128 40 ls (.int i :: .ref k :: st) σ τ = am_ai false k i (fun j => am_run d 128 41 ls (.int (σ k j) :: st) σ τ) := rr_iald dX10_mayWed_40
theorem r128_41 (d : Nat) (st : List Value) (σ : am_St) (τ : Int64) (x : Nat) (v1 v2 v3 v4 : Value) : am_run d 128 41 [.ref x, v1, v2, v3, v4] st σ τ = am_run d 128 42 [.ref x, v1, v2, v3, v4] (.ref x :: st) σ τ := rr_aload_n dX10_mayWed_41 rfl
theorem r128_42 (d : Nat) (ls st : List Value) (σ : am_St) (τ : Int64) (k : Nat) : am_run d 128 42 ls (.ref k :: st) σ τ = am_gf k 10 16 σ τ (fun v => am_run d 128 45 ls (v :: st) σ τ) := rr_getf dX10_mayWed_42 (by decide +kernel)
theorem r128_45 (d : Nat) (st : List Value) (σ : am_St) (τ : Int64) (x : Int32) (v0 v1 v3 v4 : Value) : am_run d 128 45 [v0, v1, .int x, v3, v4] st σ τ = am_run d 128 46 [v0, v1, .int x, v3, v4] (.int x :: st) σ τ := rr_iload_n dX10_mayWed_45 rfl
theorem r128_46 (d : Nat) (ls st : List Value) (σ : am_St) (τ : Int64) (i : Int32) (k : Nat) : am_run d 128 46 ls (.int i :: .ref k :: st) σ τ = am_ai false k i (fun j => am_run d 128 47 ls (.int (σ k j) :: st) σ τ) := rr_iald dX10_mayWed_46
theorem r128_47 (d : Nat) (ls st : List Value) (σ : am_St) (τ : Int64) (x y : Int32) : am_run d 128 47 ls (.int y :: .int x :: st) σ τ = if x = y then am_run d 128 54 ls st σ τ else am_run d 128 50 ls st σ τ := (rr_icmp 54 dX10_mayWed_47 (by decide)).trans am_sel
theorem r128_50 (d : Nat) (ls st : List Value) (σ : am_St) (τ : Int64) : am_run d 128 50 ls st σ τ = am_run d 128 51 ls (.int 1 :: st) σ τ := rr_iconst 1 dX10_mayWed_50 (by decide)
theorem r128_51 (d : Nat) (ls st : List Value) (σ : am_St) (τ : Int64) : am_run d 128 51 ls st σ τ = am_run d 128 55 ls st σ τ := rr_goto 55 dX10_mayWed_51 (by decide)
theorem r128_54 (d : Nat) (ls st : List Value) (σ : am_St) (τ : Int64) : am_run d 128 54 ls st σ τ = am_run d 128 55 ls (.int 0 :: st) σ τ := rr_iconst 0 dX10_mayWed_54 (by decide)
theorem r128_55 (d : Nat) (st : List Value) (σ : am_St) (τ : Int64) (x : Int32) (v0 v1 v2 v3 v4 : Value) : am_run d 128 55 [v0, v1, v2, v3, v4] (.int x :: st) σ τ = am_run d 128 56 [v0, v1, am_nl v2, .int x, v4] st σ τ := rr_istore_n _ dX10_mayWed_55 (by decide) (by first | rfl | (by_cases h : v2.category = 2 <;> simp [am_set1, am_nl, h]))
theorem r128_56 (d : Nat) (st : List Value) (σ : am_St) (τ : Int64) (x : Int32) (v0 v1 v2 v4 : Value) : am_run d 128 56 [v0, v1, v2, .int x, v4] st σ τ = am_run d 128 57 [v0, v1, v2, .int x, v4] (.int x :: st) σ τ := rr_iload_n dX10_mayWed_56 rfl
theorem r128_57 (d : Nat) (ls st : List Value) (σ : am_St) (τ : Int64) (x : Int32) : am_run d 128 57 ls (.int x :: st) σ τ = if x = 0 then am_run d 128 69 ls st σ τ else am_run d 128 60 ls st σ τ := (rr_if 69 dX10_mayWed_57 (by decide)).trans am_sel
theorem r128_60 (d : Nat) (st : List Value) (σ : am_St) (τ : Int64) (x : Nat) (v1 v2 v3 v4 : Value) : am_run d 128 60 [.ref x, v1, v2, v3, v4] st σ τ = am_run d 128 61 [.ref x, v1, v2, v3, v4] (.ref x :: st) σ τ := rr_aload_n dX10_mayWed_60 rfl
theorem r128_61 (d : Nat) (st : List Value) (σ : am_St) (τ : Int64) (x : Int32) (v0 v2 v3 v4 : Value) : am_run d 128 61 [v0, .int x, v2, v3, v4] st σ τ = am_run d 128 62 [v0, .int x, v2, v3, v4] (.int x :: st) σ τ := rr_iload_n dX10_mayWed_61 rfl
theorem r128_62 (d : Nat) (st : List Value) (σ : am_St) (τ : Int64) (x : Int32) (v0 v1 v3 v4 : Value) : am_run d 128 62 [v0, v1, .int x, v3, v4] st σ τ = am_run d 128 63 [v0, v1, .int x, v3, v4] (.int x :: st) σ τ := rr_iload_n dX10_mayWed_62 rfl
theorem r128_63 (d : Nat) (ls st : List Value) (σ : am_St) (τ : Int64) (k : Nat) (a0 : Int32) (a1 : Int32) (hk : am_kc k = 10) (hc : am_cats st ≤ 8) : am_run (d + 1) 128 63 ls (.int a1 :: .int a0 :: .ref k :: st) σ τ = (am_call d 124 [.ref k, .int a0, .int a1] σ τ).bind (fun r => am_run (d + 1) 128 66 ls (r.1.toList ++ st) r.2.1 r.2.2) := rr_invv [.int a0, .int a1] dX10_mayWed_63 (by decide +kernel) (by decide) rfl (Nat.le_of_ble_eq_true rfl) hk hc
theorem r128_66 (d : Nat) (ls st : List Value) (σ : am_St) (τ : Int64) : am_run d 128 66 ls st σ τ = am_run d 128 70 ls st σ τ := rr_goto 70 dX10_mayWed_66 (by decide)
theorem r128_69 (d : Nat) (ls st : List Value) (σ : am_St) (τ : Int64) : am_run d 128 69 ls st σ τ = am_run d 128 70 ls (.int 0 :: st) σ τ := rr_iconst 0 dX10_mayWed_69 (by decide)
theorem r128_70 (d : Nat) (st : List Value) (σ : am_St) (τ : Int64) (x : Int32) (v0 v1 v2 v3 v4 : Value) : am_run d 128 70 [v0, v1, v2, v3, v4] (.int x :: st) σ τ = am_run d 128 72 [v0, v1, v2, am_nl v3, .int x] st σ τ := rr_istore _ dX10_mayWed_70 (by decide) (by first | rfl | (by_cases h : v3.category = 2 <;> simp [am_set1, am_nl, h]))
theorem r128_72 (d : Nat) (st : List Value) (σ : am_St) (τ : Int64) (x : Int32) (v0 v1 v2 v4 : Value) : am_run d 128 72 [v0, v1, v2, .int x, v4] st σ τ = am_run d 128 73 [v0, v1, v2, .int x, v4] (.int x :: st) σ τ := rr_iload_n dX10_mayWed_72 rfl
theorem r128_73 (d : Nat) (ls st : List Value) (σ : am_St) (τ : Int64) (x : Int32) : am_run d 128 73 ls (.int x :: st) σ τ = if x = 0 then am_run d 128 92 ls st σ τ else am_run d 128 76 ls st σ τ := (rr_if 92 dX10_mayWed_73 (by decide)).trans am_sel
theorem r128_76 (d : Nat) (st : List Value) (σ : am_St) (τ : Int64) (x : Int32) (v0 v1 v2 v3 : Value) : am_run d 128 76 [v0, v1, v2, v3, .int x] st σ τ = am_run d 128 78 [v0, v1, v2, v3, .int x] (.int x :: st) σ τ := rr_iload dX10_mayWed_76 rfl
theorem r128_78 (d : Nat) (ls st : List Value) (σ : am_St) (τ : Int64) : am_run d 128 78 ls st σ τ = am_run d 128 79 ls (.int (-1) :: st) σ τ := rr_iconst (-1) dX10_mayWed_78 (by decide)
theorem r128_79 (d : Nat) (ls st : List Value) (σ : am_St) (τ : Int64) (x y : Int32) : am_run d 128 79 ls (.int y :: .int x :: st) σ τ = if x = y then am_run d 128 88 ls st σ τ else am_run d 128 82 ls st σ τ := (rr_icmp 88 dX10_mayWed_79 (by decide)).trans am_sel
theorem r128_82 (d : Nat) (st : List Value) (σ : am_St) (τ : Int64) (x : Int32) (v0 v1 v2 v3 : Value) : am_run d 128 82 [v0, v1, v2, v3, .int x] st σ τ = am_run d 128 84 [v0, v1, v2, v3, .int x] (.int x :: st) σ τ := rr_iload dX10_mayWed_82 rfl
theorem r128_84 (d : Nat) (ls st : List Value) (σ : am_St) (τ : Int64) : am_run d 128 84 ls st σ τ = am_run d 128 85 ls (.int 3 :: st) σ τ := rr_iconst 3 dX10_mayWed_84 (by decide)
theorem r128_85 (d : Nat) (ls st : List Value) (σ : am_St) (τ : Int64) (x y : Int32) : am_run d 128 85 ls (.int y :: .int x :: st) σ τ = if x ≤ y then am_run d 128 92 ls st σ τ else am_run d 128 88 ls st σ τ := (rr_icmp 92 dX10_mayWed_85 (by decide)).trans am_sel
theorem r128_88 (d : Nat) (ls st : List Value) (σ : am_St) (τ : Int64) : am_run d 128 88 ls st σ τ = am_run d 128 89 ls (.int 1 :: st) σ τ := rr_iconst 1 dX10_mayWed_88 (by decide)
theorem r128_89 (d : Nat) (ls st : List Value) (σ : am_St) (τ : Int64) : am_run d 128 89 ls st σ τ = am_run d 128 93 ls st σ τ := rr_goto 93 dX10_mayWed_89 (by decide)
theorem r128_92 (d : Nat) (ls st : List Value) (σ : am_St) (τ : Int64) : am_run d 128 92 ls st σ τ = am_run d 128 93 ls (.int 0 :: st) σ τ := rr_iconst 0 dX10_mayWed_92 (by decide)
theorem r128_93 (d : Nat) (ls : List Value) (σ : am_St) (τ : Int64) (x : Int32) (hx : x = 0 ∨ x = 1) : am_run d 128 93 ls [.int x] σ τ = some (some (.int x), σ, τ) := rr_zret dX10_mayWed_93 rfl hx
theorem dX10_may_0 : decode (am_code 129) 0 = .ok (.aload_n 0, 1) := by decide +kernel
theorem dX10_may_1 : decode (am_code 129) 1 = .ok (.iload_n 1, 1) := by decide +kernel
theorem dX10_may_2 : decode (am_code 129) 2 = .ok (.invokevirtual 138, 3) := by decide +kernel
theorem dX10_may_5 : decode (am_code 129) 5 = .ok (.ifCond .eq 11, 3) := by decide +kernel
theorem dX10_may_8 : decode (am_code 129) 8 = .ok (.aload_n 0, 1) := by decide +kernel
theorem dX10_may_9 : decode (am_code 129) 9 = .ok (.iload_n 2, 1) := by decide +kernel
theorem dX10_may_10 : decode (am_code 129) 10 = .ok (.invokevirtual 138, 3) := by decide +kernel
theorem dX10_may_13 : decode (am_code 129) 13 = .ok (.ifCond .ne 6, 3) := by decide +kernel
theorem dX10_may_16 : decode (am_code 129) 16 = .ok (.bipush (-101), 2) := by decide +kernel
theorem dX10_may_18 : decode (am_code 129) 18 = .ok (.ireturn, 1) := by decide +kernel
theorem dX10_may_19 : decode (am_code 129) 19 = .ok (.aload_n 0, 1) := by decide +kernel
theorem dX10_may_20 : decode (am_code 129) 20 = .ok (.invokevirtual 168, 3) := by decide +kernel
theorem dX10_may_23 : decode (am_code 129) 23 = .ok (.aload_n 0, 1) := by decide +kernel
theorem dX10_may_24 : decode (am_code 129) 24 = .ok (.iload_n 1, 1) := by decide +kernel
theorem dX10_may_25 : decode (am_code 129) 25 = .ok (.iload_n 2, 1) := by decide +kernel
theorem dX10_may_26 : decode (am_code 129) 26 = .ok (.invokevirtual 221, 3) := by decide +kernel
theorem dX10_may_29 : decode (am_code 129) 29 = .ok (.ifCond .eq 7, 3) := by decide +kernel
theorem dX10_may_32 : decode (am_code 129) 32 = .ok (.iconst 1, 1) := by decide +kernel
theorem dX10_may_33 : decode (am_code 129) 33 = .ok (.goto 4, 3) := by decide +kernel
theorem dX10_may_36 : decode (am_code 129) 36 = .ok (.iconst 0, 1) := by decide +kernel
theorem dX10_may_37 : decode (am_code 129) 37 = .ok (.ireturn, 1) := by decide +kernel
theorem r129_0 (d : Nat) (st : List Value) (σ : am_St) (τ : Int64) (x : Nat) (v1 v2 : Value) : am_run d 129 0 [.ref x, v1, v2] st σ τ = am_run d 129 1 [.ref x, v1, v2] (.ref x :: st) σ τ := rr_aload_n dX10_may_0 rfl
theorem r129_1 (d : Nat) (st : List Value) (σ : am_St) (τ : Int64) (x : Int32) (v0 v2 : Value) : am_run d 129 1 [v0, .int x, v2] st σ τ = am_run d 129 2 [v0, .int x, v2] (.int x :: st) σ τ := rr_iload_n dX10_may_1 rfl
theorem r129_2 (d : Nat) (ls st : List Value) (σ : am_St) (τ : Int64) (k : Nat) (a0 : Int32) (hk : am_kc k = 10) (hc : am_cats st ≤ 8) : am_run (d + 1) 129 2 ls (.int a0 :: .ref k :: st) σ τ = (am_call d 91 [.ref k, .int a0] σ τ).bind (fun r => am_run (d + 1) 129 5 ls (r.1.toList ++ st) r.2.1 r.2.2) := rr_invv [.int a0] dX10_may_2 (by decide +kernel) (by decide) rfl (Nat.le_of_ble_eq_true rfl) hk hc
theorem r129_5 (d : Nat) (ls st : List Value) (σ : am_St) (τ : Int64) (x : Int32) : am_run d 129 5 ls (.int x :: st) σ τ = if x = 0 then am_run d 129 16 ls st σ τ else am_run d 129 8 ls st σ τ := (rr_if 16 dX10_may_5 (by decide)).trans am_sel
theorem r129_8 (d : Nat) (st : List Value) (σ : am_St) (τ : Int64) (x : Nat) (v1 v2 : Value) : am_run d 129 8 [.ref x, v1, v2] st σ τ = am_run d 129 9 [.ref x, v1, v2] (.ref x :: st) σ τ := rr_aload_n dX10_may_8 rfl
theorem r129_9 (d : Nat) (st : List Value) (σ : am_St) (τ : Int64) (x : Int32) (v0 v1 : Value) : am_run d 129 9 [v0, v1, .int x] st σ τ = am_run d 129 10 [v0, v1, .int x] (.int x :: st) σ τ := rr_iload_n dX10_may_9 rfl
theorem r129_10 (d : Nat) (ls st : List Value) (σ : am_St) (τ : Int64) (k : Nat) (a0 : Int32) (hk : am_kc k = 10) (hc : am_cats st ≤ 8) : am_run (d + 1) 129 10 ls (.int a0 :: .ref k :: st) σ τ = (am_call d 91 [.ref k, .int a0] σ τ).bind (fun r => am_run (d + 1) 129 13 ls (r.1.toList ++ st) r.2.1 r.2.2) := rr_invv [.int a0] dX10_may_10 (by decide +kernel) (by decide) rfl (Nat.le_of_ble_eq_true rfl) hk hc
theorem r129_13 (d : Nat) (ls st : List Value) (σ : am_St) (τ : Int64) (x : Int32) : am_run d 129 13 ls (.int x :: st) σ τ = if x = 0 then am_run d 129 16 ls st σ τ else am_run d 129 19 ls st σ τ := (rr_if 19 dX10_may_13 (by decide)).trans am_seln
theorem r129_16 (d : Nat) (ls st : List Value) (σ : am_St) (τ : Int64) : am_run d 129 16 ls st σ τ = am_run d 129 18 ls (.int (-101) :: st) σ τ := rr_bipush (-101) dX10_may_16 (by decide)
theorem r129_18 (d : Nat) (ls : List Value) (σ : am_St) (τ : Int64) (x : Int32) : am_run d 129 18 ls [.int x] σ τ = some (some (.int x), σ, τ) := rr_iret dX10_may_18 rfl
theorem r129_19 (d : Nat) (st : List Value) (σ : am_St) (τ : Int64) (x : Nat) (v1 v2 : Value) : am_run d 129 19 [.ref x, v1, v2] st σ τ = am_run d 129 20 [.ref x, v1, v2] (.ref x :: st) σ τ := rr_aload_n dX10_may_19 rfl
theorem r129_20 (d : Nat) (ls st : List Value) (σ : am_St) (τ : Int64) (k : Nat)  (hk : am_kc k = 10) (hc : am_cats st ≤ 8) : am_run (d + 1) 129 20 ls (.ref k :: st) σ τ = (am_call d 101 [.ref k] σ τ).bind (fun r => am_run (d + 1) 129 23 ls (r.1.toList ++ st) r.2.1 r.2.2) := rr_invv [] dX10_may_20 (by decide +kernel) (by decide) rfl (Nat.le_of_ble_eq_true rfl) hk hc
theorem r129_23 (d : Nat) (st : List Value) (σ : am_St) (τ : Int64) (x : Nat) (v1 v2 : Value) : am_run d 129 23 [.ref x, v1, v2] st σ τ = am_run d 129 24 [.ref x, v1, v2] (.ref x :: st) σ τ := rr_aload_n dX10_may_23 rfl
theorem r129_24 (d : Nat) (st : List Value) (σ : am_St) (τ : Int64) (x : Int32) (v0 v2 : Value) : am_run d 129 24 [v0, .int x, v2] st σ τ = am_run d 129 25 [v0, .int x, v2] (.int x :: st) σ τ := rr_iload_n dX10_may_24 rfl
theorem r129_25 (d : Nat) (st : List Value) (σ : am_St) (τ : Int64) (x : Int32) (v0 v1 : Value) : am_run d 129 25 [v0, v1, .int x] st σ τ = am_run d 129 26 [v0, v1, .int x] (.int x :: st) σ τ := rr_iload_n dX10_may_25 rfl
theorem r129_26 (d : Nat) (ls st : List Value) (σ : am_St) (τ : Int64) (k : Nat) (a0 : Int32) (a1 : Int32) (hk : am_kc k = 10) (hc : am_cats st ≤ 8) : am_run (d + 1) 129 26 ls (.int a1 :: .int a0 :: .ref k :: st) σ τ = (am_call d 128 [.ref k, .int a0, .int a1] σ τ).bind (fun r => am_run (d + 1) 129 29 ls (r.1.toList ++ st) r.2.1 r.2.2) := rr_invv [.int a0, .int a1] dX10_may_26 (by decide +kernel) (by decide) rfl (Nat.le_of_ble_eq_true rfl) hk hc
theorem r129_29 (d : Nat) (ls st : List Value) (σ : am_St) (τ : Int64) (x : Int32) : am_run d 129 29 ls (.int x :: st) σ τ = if x = 0 then am_run d 129 36 ls st σ τ else am_run d 129 32 ls st σ τ := (rr_if 36 dX10_may_29 (by decide)).trans am_sel
theorem r129_32 (d : Nat) (ls st : List Value) (σ : am_St) (τ : Int64) : am_run d 129 32 ls st σ τ = am_run d 129 33 ls (.int 1 :: st) σ τ := rr_iconst 1 dX10_may_32 (by decide)
theorem r129_33 (d : Nat) (ls st : List Value) (σ : am_St) (τ : Int64) : am_run d 129 33 ls st σ τ = am_run d 129 37 ls st σ τ := rr_goto 37 dX10_may_33 (by decide)
theorem r129_36 (d : Nat) (ls st : List Value) (σ : am_St) (τ : Int64) : am_run d 129 36 ls st σ τ = am_run d 129 37 ls (.int 0 :: st) σ τ := rr_iconst 0 dX10_may_36 (by decide)
theorem r129_37 (d : Nat) (ls : List Value) (σ : am_St) (τ : Int64) (x : Int32) : am_run d 129 37 ls [.int x] σ τ = some (some (.int x), σ, τ) := rr_iret dX10_may_37 rfl
theorem dX10_layMost_0 : decode (am_code 130) 0 = .ok (.iconst 0, 1) := by decide +kernel
theorem dX10_layMost_1 : decode (am_code 130) 1 = .ok (.istore_n 1, 1) := by decide +kernel
theorem dX10_layMost_2 : decode (am_code 130) 2 = .ok (.iload_n 1, 1) := by decide +kernel
theorem dX10_layMost_3 : decode (am_code 130) 3 = .ok (.aload_n 0, 1) := by decide +kernel
theorem dX10_layMost_4 : decode (am_code 130) 4 = .ok (.getfield 129, 3) := by decide +kernel
theorem dX10_layMost_7 : decode (am_code 130) 7 = .ok (.if_icmp .ge 66, 3) := by decide +kernel
theorem dX10_layMost_10 : decode (am_code 130) 10 = .ok (.aload_n 0, 1) := by decide +kernel
theorem dX10_layMost_11 : decode (am_code 130) 11 = .ok (.getfield 86, 3) := by decide +kernel
theorem dX10_layMost_14 : decode (am_code 130) 14 = .ok (.iload_n 1, 1) := by decide +kernel
theorem dX10_layMost_15 : decode (am_code 130) 15 = .ok (.iconst 0, 1) := by decide +kernel
theorem dX10_layMost_16 : decode (am_code 130) 16 = .ok (.iastore, 1) := by decide +kernel
theorem dX10_layMost_17 : decode (am_code 130) 17 = .ok (.iconst 0, 1) := by decide +kernel
theorem dX10_layMost_18 : decode (am_code 130) 18 = .ok (.istore_n 2, 1) := by decide +kernel
theorem dX10_layMost_19 : decode (am_code 130) 19 = .ok (.iload_n 2, 1) := by decide +kernel
theorem dX10_layMost_20 : decode (am_code 130) 20 = .ok (.aload_n 0, 1) := by decide +kernel
theorem dX10_layMost_21 : decode (am_code 130) 21 = .ok (.getfield 129, 3) := by decide +kernel
theorem dX10_layMost_24 : decode (am_code 130) 24 = .ok (.if_icmp .ge 43, 3) := by decide +kernel
theorem dX10_layMost_27 : decode (am_code 130) 27 = .ok (.aload_n 0, 1) := by decide +kernel
theorem dX10_layMost_28 : decode (am_code 130) 28 = .ok (.getfield 22, 3) := by decide +kernel
theorem dX10_layMost_31 : decode (am_code 130) 31 = .ok (.iload_n 1, 1) := by decide +kernel
theorem dX10_layMost_32 : decode (am_code 130) 32 = .ok (.iaload, 1) := by decide +kernel
theorem dX10_layMost_33 : decode (am_code 130) 33 = .ok (.ifCond .ne 34, 3) := by decide +kernel
theorem dX10_layMost_36 : decode (am_code 130) 36 = .ok (.aload_n 0, 1) := by decide +kernel
theorem dX10_layMost_37 : decode (am_code 130) 37 = .ok (.getfield 86, 3) := by decide +kernel
theorem dX10_layMost_40 : decode (am_code 130) 40 = .ok (.iload_n 1, 1) := by decide +kernel
theorem dX10_layMost_41 : decode (am_code 130) 41 = .ok (.dup2, 1) := by decide +kernel
theorem dX10_layMost_42 : decode (am_code 130) 42 = .ok (.iaload, 1) := by decide +kernel
theorem dX10_layMost_43 : decode (am_code 130) 43 = .ok (.aload_n 0, 1) := by decide +kernel
theorem dX10_layMost_44 : decode (am_code 130) 44 = .ok (.iload_n 1, 1) := by decide +kernel
theorem dX10_layMost_45 : decode (am_code 130) 45 = .ok (.iload_n 2, 1) := by decide +kernel
theorem dX10_layMost_46 : decode (am_code 130) 46 = .ok (.invokevirtual 221, 3) := by decide +kernel
theorem dX10_layMost_49 : decode (am_code 130) 49 = .ok (.ifCond .eq 9, 3) := by decide +kernel
theorem dX10_layMost_52 : decode (am_code 130) 52 = .ok (.iconst 1, 1) := by decide +kernel
theorem dX10_layMost_53 : decode (am_code 130) 53 = .ok (.iload_n 2, 1) := by decide +kernel
theorem dX10_layMost_54 : decode (am_code 130) 54 = .ok (.ishl, 1) := by decide +kernel
theorem dX10_layMost_55 : decode (am_code 130) 55 = .ok (.goto 4, 3) := by decide +kernel
theorem dX10_layMost_58 : decode (am_code 130) 58 = .ok (.iconst 0, 1) := by decide +kernel
theorem dX10_layMost_59 : decode (am_code 130) 59 = .ok (.ior, 1) := by decide +kernel
theorem dX10_layMost_60 : decode (am_code 130) 60 = .ok (.iastore, 1) := by decide +kernel
theorem dX10_layMost_61 : decode (am_code 130) 61 = .ok (.iinc 2 1, 3) := by decide +kernel
theorem dX10_layMost_64 : decode (am_code 130) 64 = .ok (.goto (-45), 3) := by decide +kernel
theorem dX10_layMost_67 : decode (am_code 130) 67 = .ok (.iinc 1 1, 3) := by decide +kernel
theorem dX10_layMost_70 : decode (am_code 130) 70 = .ok (.goto (-68), 3) := by decide +kernel
theorem dX10_layMost_73 : decode (am_code 130) 73 = .ok (.iconst 0, 1) := by decide +kernel
theorem dX10_layMost_74 : decode (am_code 130) 74 = .ok (.istore_n 1, 1) := by decide +kernel
theorem dX10_layMost_75 : decode (am_code 130) 75 = .ok (.iload_n 1, 1) := by decide +kernel
theorem dX10_layMost_76 : decode (am_code 130) 76 = .ok (.iconst 1, 1) := by decide +kernel
theorem dX10_layMost_77 : decode (am_code 130) 77 = .ok (.aload_n 0, 1) := by decide +kernel
theorem dX10_layMost_78 : decode (am_code 130) 78 = .ok (.getfield 129, 3) := by decide +kernel
theorem dX10_layMost_81 : decode (am_code 130) 81 = .ok (.ishl, 1) := by decide +kernel
theorem dX10_layMost_82 : decode (am_code 130) 82 = .ok (.if_icmp .ge 25, 3) := by decide +kernel
theorem dX10_layMost_85 : decode (am_code 130) 85 = .ok (.aload_n 0, 1) := by decide +kernel
theorem dX10_layMost_86 : decode (am_code 130) 86 = .ok (.getfield 80, 3) := by decide +kernel
theorem dX10_layMost_89 : decode (am_code 130) 89 = .ok (.sipush 4096, 3) := by decide +kernel
theorem dX10_layMost_92 : decode (am_code 130) 92 = .ok (.aload_n 0, 1) := by decide +kernel
theorem dX10_layMost_93 : decode (am_code 130) 93 = .ok (.getfield 129, 3) := by decide +kernel
theorem dX10_layMost_96 : decode (am_code 130) 96 = .ok (.imul, 1) := by decide +kernel
theorem dX10_layMost_97 : decode (am_code 130) 97 = .ok (.iload_n 1, 1) := by decide +kernel
theorem dX10_layMost_98 : decode (am_code 130) 98 = .ok (.iadd, 1) := by decide +kernel
theorem dX10_layMost_99 : decode (am_code 130) 99 = .ok (.iconst 0, 1) := by decide +kernel
theorem dX10_layMost_100 : decode (am_code 130) 100 = .ok (.iastore, 1) := by decide +kernel
theorem dX10_layMost_101 : decode (am_code 130) 101 = .ok (.iinc 1 1, 3) := by decide +kernel
theorem dX10_layMost_104 : decode (am_code 130) 104 = .ok (.goto (-29), 3) := by decide +kernel
theorem dX10_layMost_107 : decode (am_code 130) 107 = .ok (.aload_n 0, 1) := by decide +kernel
theorem dX10_layMost_108 : decode (am_code 130) 108 = .ok (.getfield 129, 3) := by decide +kernel
theorem dX10_layMost_111 : decode (am_code 130) 111 = .ok (.iconst 1, 1) := by decide +kernel
theorem dX10_layMost_112 : decode (am_code 130) 112 = .ok (.isub, 1) := by decide +kernel
theorem dX10_layMost_113 : decode (am_code 130) 113 = .ok (.istore_n 1, 1) := by decide +kernel
theorem dX10_layMost_114 : decode (am_code 130) 114 = .ok (.iload_n 1, 1) := by decide +kernel
theorem dX10_layMost_115 : decode (am_code 130) 115 = .ok (.ifCond .lt 142, 3) := by decide +kernel
theorem dX10_layMost_118 : decode (am_code 130) 118 = .ok (.iconst 0, 1) := by decide +kernel
theorem dX10_layMost_119 : decode (am_code 130) 119 = .ok (.istore_n 2, 1) := by decide +kernel
theorem dX10_layMost_120 : decode (am_code 130) 120 = .ok (.iload_n 2, 1) := by decide +kernel
theorem dX10_layMost_121 : decode (am_code 130) 121 = .ok (.iconst 1, 1) := by decide +kernel
theorem dX10_layMost_122 : decode (am_code 130) 122 = .ok (.aload_n 0, 1) := by decide +kernel
theorem dX10_layMost_123 : decode (am_code 130) 123 = .ok (.getfield 129, 3) := by decide +kernel
theorem dX10_layMost_126 : decode (am_code 130) 126 = .ok (.ishl, 1) := by decide +kernel
theorem dX10_layMost_127 : decode (am_code 130) 127 = .ok (.if_icmp .ge 124, 3) := by decide +kernel
theorem dX10_layMost_130 : decode (am_code 130) 130 = .ok (.aload_n 0, 1) := by decide +kernel
theorem dX10_layMost_131 : decode (am_code 130) 131 = .ok (.getfield 80, 3) := by decide +kernel
theorem dX10_layMost_134 : decode (am_code 130) 134 = .ok (.sipush 4096, 3) := by decide +kernel
theorem dX10_layMost_137 : decode (am_code 130) 137 = .ok (.iload_n 1, 1) := by decide +kernel
theorem dX10_layMost_138 : decode (am_code 130) 138 = .ok (.iconst 1, 1) := by decide +kernel
theorem dX10_layMost_139 : decode (am_code 130) 139 = .ok (.iadd, 1) := by decide +kernel
theorem dX10_layMost_140 : decode (am_code 130) 140 = .ok (.imul, 1) := by decide +kernel
theorem dX10_layMost_141 : decode (am_code 130) 141 = .ok (.iload_n 2, 1) := by decide +kernel
theorem dX10_layMost_142 : decode (am_code 130) 142 = .ok (.iadd, 1) := by decide +kernel
theorem dX10_layMost_143 : decode (am_code 130) 143 = .ok (.iaload, 1) := by decide +kernel
theorem dX10_layMost_144 : decode (am_code 130) 144 = .ok (.istore_n 3, 1) := by decide +kernel
theorem dX10_layMost_145 : decode (am_code 130) 145 = .ok (.iconst 0, 1) := by decide +kernel
theorem dX10_layMost_146 : decode (am_code 130) 146 = .ok (.istore 4, 2) := by decide +kernel
theorem dX10_layMost_148 : decode (am_code 130) 148 = .ok (.iload 4, 2) := by decide +kernel
theorem dX10_layMost_150 : decode (am_code 130) 150 = .ok (.aload_n 0, 1) := by decide +kernel
theorem dX10_layMost_151 : decode (am_code 130) 151 = .ok (.getfield 129, 3) := by decide +kernel
theorem dX10_layMost_154 : decode (am_code 130) 154 = .ok (.if_icmp .ge 78, 3) := by decide +kernel
theorem dX10_layMost_157 : decode (am_code 130) 157 = .ok (.aload_n 0, 1) := by decide +kernel
theorem dX10_layMost_158 : decode (am_code 130) 158 = .ok (.getfield 86, 3) := by decide +kernel
theorem dX10_layMost_161 : decode (am_code 130) 161 = .ok (.iload_n 1, 1) := by decide +kernel
theorem dX10_layMost_162 : decode (am_code 130) 162 = .ok (.iaload, 1) := by decide +kernel
theorem dX10_layMost_163 : decode (am_code 130) 163 = .ok (.ifCond .eq 69, 3) := by decide +kernel
theorem dX10_layMost_166 : decode (am_code 130) 166 = .ok (.aload_n 0, 1) := by decide +kernel
theorem dX10_layMost_167 : decode (am_code 130) 167 = .ok (.getfield 86, 3) := by decide +kernel
theorem dX10_layMost_170 : decode (am_code 130) 170 = .ok (.iload_n 1, 1) := by decide +kernel
theorem dX10_layMost_171 : decode (am_code 130) 171 = .ok (.iaload, 1) := by decide +kernel
theorem dX10_layMost_172 : decode (am_code 130) 172 = .ok (.iload 4, 2) := by decide +kernel
theorem dX10_layMost_174 : decode (am_code 130) 174 = .ok (.ishr, 1) := by decide +kernel
theorem dX10_layMost_175 : decode (am_code 130) 175 = .ok (.iconst 1, 1) := by decide +kernel
theorem dX10_layMost_176 : decode (am_code 130) 176 = .ok (.iand, 1) := by decide +kernel
theorem dX10_layMost_177 : decode (am_code 130) 177 = .ok (.iconst 1, 1) := by decide +kernel
theorem dX10_layMost_178 : decode (am_code 130) 178 = .ok (.if_icmp .ne 48, 3) := by decide +kernel
theorem dX10_layMost_181 : decode (am_code 130) 181 = .ok (.iload_n 2, 1) := by decide +kernel
theorem dX10_layMost_182 : decode (am_code 130) 182 = .ok (.iload 4, 2) := by decide +kernel
theorem dX10_layMost_184 : decode (am_code 130) 184 = .ok (.ishr, 1) := by decide +kernel
theorem dX10_layMost_185 : decode (am_code 130) 185 = .ok (.iconst 1, 1) := by decide +kernel
theorem dX10_layMost_186 : decode (am_code 130) 186 = .ok (.iand, 1) := by decide +kernel
theorem dX10_layMost_187 : decode (am_code 130) 187 = .ok (.ifCond .ne 39, 3) := by decide +kernel
theorem dX10_layMost_190 : decode (am_code 130) 190 = .ok (.iconst 1, 1) := by decide +kernel
theorem dX10_layMost_191 : decode (am_code 130) 191 = .ok (.aload_n 0, 1) := by decide +kernel
theorem dX10_layMost_192 : decode (am_code 130) 192 = .ok (.getfield 80, 3) := by decide +kernel
theorem dX10_layMost_195 : decode (am_code 130) 195 = .ok (.sipush 4096, 3) := by decide +kernel
theorem dX10_layMost_198 : decode (am_code 130) 198 = .ok (.iload_n 1, 1) := by decide +kernel
theorem dX10_layMost_199 : decode (am_code 130) 199 = .ok (.iconst 1, 1) := by decide +kernel
theorem dX10_layMost_200 : decode (am_code 130) 200 = .ok (.iadd, 1) := by decide +kernel
theorem dX10_layMost_201 : decode (am_code 130) 201 = .ok (.imul, 1) := by decide +kernel
theorem dX10_layMost_202 : decode (am_code 130) 202 = .ok (.iload_n 2, 1) := by decide +kernel
theorem dX10_layMost_203 : decode (am_code 130) 203 = .ok (.iconst 1, 1) := by decide +kernel
theorem dX10_layMost_204 : decode (am_code 130) 204 = .ok (.iload 4, 2) := by decide +kernel
theorem dX10_layMost_206 : decode (am_code 130) 206 = .ok (.ishl, 1) := by decide +kernel
theorem dX10_layMost_207 : decode (am_code 130) 207 = .ok (.ior, 1) := by decide +kernel
theorem dX10_layMost_208 : decode (am_code 130) 208 = .ok (.iadd, 1) := by decide +kernel
theorem dX10_layMost_209 : decode (am_code 130) 209 = .ok (.iaload, 1) := by decide +kernel
theorem dX10_layMost_210 : decode (am_code 130) 210 = .ok (.iadd, 1) := by decide +kernel
theorem dX10_layMost_211 : decode (am_code 130) 211 = .ok (.istore 5, 2) := by decide +kernel
theorem dX10_layMost_213 : decode (am_code 130) 213 = .ok (.iload 5, 2) := by decide +kernel
theorem dX10_layMost_215 : decode (am_code 130) 215 = .ok (.iload_n 3, 1) := by decide +kernel
theorem dX10_layMost_216 : decode (am_code 130) 216 = .ok (.if_icmp .le 8, 3) := by decide +kernel
theorem dX10_layMost_219 : decode (am_code 130) 219 = .ok (.iload 5, 2) := by decide +kernel
theorem dX10_layMost_221 : decode (am_code 130) 221 = .ok (.goto 4, 3) := by decide +kernel
theorem dX10_layMost_224 : decode (am_code 130) 224 = .ok (.iload_n 3, 1) := by decide +kernel
theorem dX10_layMost_225 : decode (am_code 130) 225 = .ok (.istore_n 3, 1) := by decide +kernel
theorem dX10_layMost_226 : decode (am_code 130) 226 = .ok (.iinc 4 1, 3) := by decide +kernel
theorem dX10_layMost_229 : decode (am_code 130) 229 = .ok (.goto (-81), 3) := by decide +kernel
theorem dX10_layMost_232 : decode (am_code 130) 232 = .ok (.aload_n 0, 1) := by decide +kernel
theorem dX10_layMost_233 : decode (am_code 130) 233 = .ok (.getfield 80, 3) := by decide +kernel
theorem dX10_layMost_236 : decode (am_code 130) 236 = .ok (.sipush 4096, 3) := by decide +kernel
theorem dX10_layMost_239 : decode (am_code 130) 239 = .ok (.iload_n 1, 1) := by decide +kernel
theorem dX10_layMost_240 : decode (am_code 130) 240 = .ok (.imul, 1) := by decide +kernel
theorem dX10_layMost_241 : decode (am_code 130) 241 = .ok (.iload_n 2, 1) := by decide +kernel
theorem dX10_layMost_242 : decode (am_code 130) 242 = .ok (.iadd, 1) := by decide +kernel
theorem dX10_layMost_243 : decode (am_code 130) 243 = .ok (.iload_n 3, 1) := by decide +kernel
theorem dX10_layMost_244 : decode (am_code 130) 244 = .ok (.iastore, 1) := by decide +kernel
theorem dX10_layMost_245 : decode (am_code 130) 245 = .ok (.iinc 2 1, 3) := by decide +kernel
theorem dX10_layMost_248 : decode (am_code 130) 248 = .ok (.goto (-128), 3) := by decide +kernel
theorem dX10_layMost_251 : decode (am_code 130) 251 = .ok (.iinc 1 (-1), 3) := by decide +kernel
theorem dX10_layMost_254 : decode (am_code 130) 254 = .ok (.goto (-140), 3) := by decide +kernel
theorem dX10_layMost_257 : decode (am_code 130) 257 = .ok (.return_, 1) := by decide +kernel
theorem r130_0 (d : Nat) (ls st : List Value) (σ : am_St) (τ : Int64) : am_run d 130 0 ls st σ τ = am_run d 130 1 ls (.int 0 :: st) σ τ := rr_iconst 0 dX10_layMost_0 (by decide)
theorem r130_1 (d : Nat) (st : List Value) (σ : am_St) (τ : Int64) (x : Int32) (v0 v1 v2 v3 v4 v5 : Value) : am_run d 130 1 [v0, v1, v2, v3, v4, v5] (.int x :: st) σ τ = am_run d 130 2 [am_nl v0, .int x, v2, v3, v4, v5] st σ τ := rr_istore_n _ dX10_layMost_1 (by decide) (by first | rfl | (by_cases h : v0.category = 2 <;> simp [am_set1, am_nl, h]))
theorem r130_2 (d : Nat) (st : List Value) (σ : am_St) (τ : Int64) (x : Int32) (v0 v2 v3 v4 v5 : Value) : am_run d 130 2 [v0, .int x, v2, v3, v4, v5] st σ τ = am_run d 130 3 [v0, .int x, v2, v3, v4, v5] (.int x :: st) σ τ := rr_iload_n dX10_layMost_2 rfl
theorem r130_3 (d : Nat) (st : List Value) (σ : am_St) (τ : Int64) (x : Nat) (v1 v2 v3 v4 v5 : Value) : am_run d 130 3 [.ref x, v1, v2, v3, v4, v5] st σ τ = am_run d 130 4 [.ref x, v1, v2, v3, v4, v5] (.ref x :: st) σ τ := rr_aload_n dX10_layMost_3 rfl
theorem r130_4 (d : Nat) (ls st : List Value) (σ : am_St) (τ : Int64) (k : Nat) : am_run d 130 4 ls (.ref k :: st) σ τ = am_gf k 10 6 σ τ (fun v => am_run d 130 7 ls (v :: st) σ τ) := rr_getf dX10_layMost_4 (by decide +kernel)
theorem r130_7 (d : Nat) (ls st : List Value) (σ : am_St) (τ : Int64) (x y : Int32) : am_run d 130 7 ls (.int y :: .int x :: st) σ τ = if y ≤ x then am_run d 130 73 ls st σ τ else am_run d 130 10 ls st σ τ := (rr_icmp 73 dX10_layMost_7 (by decide)).trans am_sel
theorem r130_10 (d : Nat) (st : List Value) (σ : am_St) (τ : Int64) (x : Nat) (v1 v2 v3 v4 v5 : Value) : am_run d 130 10 [.ref x, v1, v2, v3, v4, v5] st σ τ = am_run d 130 11 [.ref x, v1, v2, v3, v4, v5] (.ref x :: st) σ τ := rr_aload_n dX10_layMost_10 rfl
theorem r130_11 (d : Nat) (ls st : List Value) (σ : am_St) (τ : Int64) (k : Nat) : am_run d 130 11 ls (.ref k :: st) σ τ = am_gf k 10 31 σ τ (fun v => am_run d 130 14 ls (v :: st) σ τ) := rr_getf dX10_layMost_11 (by decide +kernel)
theorem r130_14 (d : Nat) (st : List Value) (σ : am_St) (τ : Int64) (x : Int32) (v0 v2 v3 v4 v5 : Value) : am_run d 130 14 [v0, .int x, v2, v3, v4, v5] st σ τ = am_run d 130 15 [v0, .int x, v2, v3, v4, v5] (.int x :: st) σ τ := rr_iload_n dX10_layMost_14 rfl
theorem r130_15 (d : Nat) (ls st : List Value) (σ : am_St) (τ : Int64) : am_run d 130 15 ls st σ τ = am_run d 130 16 ls (.int 0 :: st) σ τ := rr_iconst 0 dX10_layMost_15 (by decide)
theorem r130_16 (d : Nat) (ls st : List Value) (σ : am_St) (τ : Int64) (x i : Int32) (k : Nat) : am_run d 130 16 ls (.int x :: .int i :: .ref k :: st) σ τ = am_ai false k i (fun j => am_run d 130 17 ls st (am_up σ k j x) τ) := rr_iast dX10_layMost_16
theorem r130_17 (d : Nat) (ls st : List Value) (σ : am_St) (τ : Int64) : am_run d 130 17 ls st σ τ = am_run d 130 18 ls (.int 0 :: st) σ τ := rr_iconst 0 dX10_layMost_17 (by decide)
theorem r130_18 (d : Nat) (st : List Value) (σ : am_St) (τ : Int64) (x : Int32) (v0 v1 v2 v3 v4 v5 : Value) : am_run d 130 18 [v0, v1, v2, v3, v4, v5] (.int x :: st) σ τ = am_run d 130 19 [v0, am_nl v1, .int x, v3, v4, v5] st σ τ := rr_istore_n _ dX10_layMost_18 (by decide) (by first | rfl | (by_cases h : v1.category = 2 <;> simp [am_set1, am_nl, h]))
theorem r130_19 (d : Nat) (st : List Value) (σ : am_St) (τ : Int64) (x : Int32) (v0 v1 v3 v4 v5 : Value) : am_run d 130 19 [v0, v1, .int x, v3, v4, v5] st σ τ = am_run d 130 20 [v0, v1, .int x, v3, v4, v5] (.int x :: st) σ τ := rr_iload_n dX10_layMost_19 rfl
theorem r130_20 (d : Nat) (st : List Value) (σ : am_St) (τ : Int64) (x : Nat) (v1 v2 v3 v4 v5 : Value) : am_run d 130 20 [.ref x, v1, v2, v3, v4, v5] st σ τ = am_run d 130 21 [.ref x, v1, v2, v3, v4, v5] (.ref x :: st) σ τ := rr_aload_n dX10_layMost_20 rfl
theorem r130_21 (d : Nat) (ls st : List Value) (σ : am_St) (τ : Int64) (k : Nat) : am_run d 130 21 ls (.ref k :: st) σ τ = am_gf k 10 6 σ τ (fun v => am_run d 130 24 ls (v :: st) σ τ) := rr_getf dX10_layMost_21 (by decide +kernel)
theorem r130_24 (d : Nat) (ls st : List Value) (σ : am_St) (τ : Int64) (x y : Int32) : am_run d 130 24 ls (.int y :: .int x :: st) σ τ = if y ≤ x then am_run d 130 67 ls st σ τ else am_run d 130 27 ls st σ τ := (rr_icmp 67 dX10_layMost_24 (by decide)).trans am_sel
theorem r130_27 (d : Nat) (st : List Value) (σ : am_St) (τ : Int64) (x : Nat) (v1 v2 v3 v4 v5 : Value) : am_run d 130 27 [.ref x, v1, v2, v3, v4, v5] st σ τ = am_run d 130 28 [.ref x, v1, v2, v3, v4, v5] (.ref x :: st) σ τ := rr_aload_n dX10_layMost_27 rfl
theorem r130_28 (d : Nat) (ls st : List Value) (σ : am_St) (τ : Int64) (k : Nat) : am_run d 130 28 ls (.ref k :: st) σ τ = am_gf k 10 9 σ τ (fun v => am_run d 130 31 ls (v :: st) σ τ) := rr_getf dX10_layMost_28 (by decide +kernel)
theorem r130_31 (d : Nat) (st : List Value) (σ : am_St) (τ : Int64) (x : Int32) (v0 v2 v3 v4 v5 : Value) : am_run d 130 31 [v0, .int x, v2, v3, v4, v5] st σ τ = am_run d 130 32 [v0, .int x, v2, v3, v4, v5] (.int x :: st) σ τ := rr_iload_n dX10_layMost_31 rfl
theorem r130_32 (d : Nat) (ls st : List Value) (σ : am_St) (τ : Int64) (i : Int32) (k : Nat) : am_run d 130 32 ls (.int i :: .ref k :: st) σ τ = am_ai false k i (fun j => am_run d 130 33 ls (.int (σ k j) :: st) σ τ) := rr_iald dX10_layMost_32
theorem r130_33 (d : Nat) (ls st : List Value) (σ : am_St) (τ : Int64) (x : Int32) : am_run d 130 33 ls (.int x :: st) σ τ = if x = 0 then am_run d 130 36 ls st σ τ else am_run d 130 67 ls st σ τ := (rr_if 67 dX10_layMost_33 (by decide)).trans am_seln
theorem r130_36 (d : Nat) (st : List Value) (σ : am_St) (τ : Int64) (x : Nat) (v1 v2 v3 v4 v5 : Value) : am_run d 130 36 [.ref x, v1, v2, v3, v4, v5] st σ τ = am_run d 130 37 [.ref x, v1, v2, v3, v4, v5] (.ref x :: st) σ τ := rr_aload_n dX10_layMost_36 rfl
theorem r130_37 (d : Nat) (ls st : List Value) (σ : am_St) (τ : Int64) (k : Nat) : am_run d 130 37 ls (.ref k :: st) σ τ = am_gf k 10 31 σ τ (fun v => am_run d 130 40 ls (v :: st) σ τ) := rr_getf dX10_layMost_37 (by decide +kernel)
theorem r130_40 (d : Nat) (st : List Value) (σ : am_St) (τ : Int64) (x : Int32) (v0 v2 v3 v4 v5 : Value) : am_run d 130 40 [v0, .int x, v2, v3, v4, v5] st σ τ = am_run d 130 41 [v0, .int x, v2, v3, v4, v5] (.int x :: st) σ τ := rr_iload_n dX10_layMost_40 rfl
theorem r130_41 (d : Nat) (ls st : List Value) (σ : am_St) (τ : Int64) (x : Int32) (y : Nat) : am_run d 130 41 ls (.int x :: .ref y :: st) σ τ = am_run d 130 42 ls (.int x :: .ref y :: .int x :: .ref y :: st) σ τ := rr_dup2 dX10_layMost_41
theorem r130_42 (d : Nat) (ls st : List Value) (σ : am_St) (τ : Int64) (i : Int32) (k : Nat) : am_run d 130 42 ls (.int i :: .ref k :: st) σ τ = am_ai false k i (fun j => am_run d 130 43 ls (.int (σ k j) :: st) σ τ) := rr_iald dX10_layMost_42
theorem r130_43 (d : Nat) (st : List Value) (σ : am_St) (τ : Int64) (x : Nat) (v1 v2 v3 v4 v5 : Value) : am_run d 130 43 [.ref x, v1, v2, v3, v4, v5] st σ τ = am_run d 130 44 [.ref x, v1, v2, v3, v4, v5] (.ref x :: st) σ τ := rr_aload_n dX10_layMost_43 rfl
theorem r130_44 (d : Nat) (st : List Value) (σ : am_St) (τ : Int64) (x : Int32) (v0 v2 v3 v4 v5 : Value) : am_run d 130 44 [v0, .int x, v2, v3, v4, v5] st σ τ = am_run d 130 45 [v0, .int x, v2, v3, v4, v5] (.int x :: st) σ τ := rr_iload_n dX10_layMost_44 rfl
theorem r130_45 (d : Nat) (st : List Value) (σ : am_St) (τ : Int64) (x : Int32) (v0 v1 v3 v4 v5 : Value) : am_run d 130 45 [v0, v1, .int x, v3, v4, v5] st σ τ = am_run d 130 46 [v0, v1, .int x, v3, v4, v5] (.int x :: st) σ τ := rr_iload_n dX10_layMost_45 rfl
theorem r130_46 (d : Nat) (ls st : List Value) (σ : am_St) (τ : Int64) (k : Nat) (a0 : Int32) (a1 : Int32) (hk : am_kc k = 10) (hc : am_cats st ≤ 8) : am_run (d + 1) 130 46 ls (.int a1 :: .int a0 :: .ref k :: st) σ τ = (am_call d 128 [.ref k, .int a0, .int a1] σ τ).bind (fun r => am_run (d + 1) 130 49 ls (r.1.toList ++ st) r.2.1 r.2.2) := rr_invv [.int a0, .int a1] dX10_layMost_46 (by decide +kernel) (by decide) rfl (Nat.le_of_ble_eq_true rfl) hk hc
theorem r130_49 (d : Nat) (ls st : List Value) (σ : am_St) (τ : Int64) (x : Int32) : am_run d 130 49 ls (.int x :: st) σ τ = if x = 0 then am_run d 130 58 ls st σ τ else am_run d 130 52 ls st σ τ := (rr_if 58 dX10_layMost_49 (by decide)).trans am_sel
theorem r130_52 (d : Nat) (ls st : List Value) (σ : am_St) (τ : Int64) : am_run d 130 52 ls st σ τ = am_run d 130 53 ls (.int 1 :: st) σ τ := rr_iconst 1 dX10_layMost_52 (by decide)
theorem r130_53 (d : Nat) (st : List Value) (σ : am_St) (τ : Int64) (x : Int32) (v0 v1 v3 v4 v5 : Value) : am_run d 130 53 [v0, v1, .int x, v3, v4, v5] st σ τ = am_run d 130 54 [v0, v1, .int x, v3, v4, v5] (.int x :: st) σ τ := rr_iload_n dX10_layMost_53 rfl
theorem r130_54 (d : Nat) (ls st : List Value) (σ : am_St) (τ : Int64) (x y : Int32) : am_run d 130 54 ls (.int y :: .int x :: st) σ τ = am_run d 130 55 ls (.int (x <<< (y &&& 31)) :: st) σ τ := rr_ishl dX10_layMost_54
theorem r130_55 (d : Nat) (ls st : List Value) (σ : am_St) (τ : Int64) : am_run d 130 55 ls st σ τ = am_run d 130 59 ls st σ τ := rr_goto 59 dX10_layMost_55 (by decide)
theorem r130_58 (d : Nat) (ls st : List Value) (σ : am_St) (τ : Int64) : am_run d 130 58 ls st σ τ = am_run d 130 59 ls (.int 0 :: st) σ τ := rr_iconst 0 dX10_layMost_58 (by decide)
theorem r130_59 (d : Nat) (ls st : List Value) (σ : am_St) (τ : Int64) (x y : Int32) : am_run d 130 59 ls (.int y :: .int x :: st) σ τ = am_run d 130 60 ls (.int (x ||| y) :: st) σ τ := rr_ior dX10_layMost_59
theorem r130_60 (d : Nat) (ls st : List Value) (σ : am_St) (τ : Int64) (x i : Int32) (k : Nat) : am_run d 130 60 ls (.int x :: .int i :: .ref k :: st) σ τ = am_ai false k i (fun j => am_run d 130 61 ls st (am_up σ k j x) τ) := rr_iast dX10_layMost_60
theorem r130_61 (d : Nat) (st : List Value) (σ : am_St) (τ : Int64) (x : Int32) (v0 v1 v3 v4 v5 : Value) : am_run d 130 61 [v0, v1, .int x, v3, v4, v5] st σ τ = am_run d 130 64 [v0, am_nl v1, .int (x + 1), v3, v4, v5] st σ τ := rr_iinc 1 _ dX10_layMost_61 rfl (by decide) (by decide) (by first | rfl | (by_cases h : v1.category = 2 <;> simp [am_set1, am_nl, h]))
theorem r130_64 (d : Nat) (ls st : List Value) (σ : am_St) (τ : Int64) : am_run d 130 64 ls st σ τ = am_run d 130 19 ls st σ τ := rr_goto 19 dX10_layMost_64 (by decide)
theorem r130_67 (d : Nat) (st : List Value) (σ : am_St) (τ : Int64) (x : Int32) (v0 v2 v3 v4 v5 : Value) : am_run d 130 67 [v0, .int x, v2, v3, v4, v5] st σ τ = am_run d 130 70 [am_nl v0, .int (x + 1), v2, v3, v4, v5] st σ τ := rr_iinc 1 _ dX10_layMost_67 rfl (by decide) (by decide) (by first | rfl | (by_cases h : v0.category = 2 <;> simp [am_set1, am_nl, h]))
theorem r130_70 (d : Nat) (ls st : List Value) (σ : am_St) (τ : Int64) : am_run d 130 70 ls st σ τ = am_run d 130 2 ls st σ τ := rr_goto 2 dX10_layMost_70 (by decide)
theorem r130_73 (d : Nat) (ls st : List Value) (σ : am_St) (τ : Int64) : am_run d 130 73 ls st σ τ = am_run d 130 74 ls (.int 0 :: st) σ τ := rr_iconst 0 dX10_layMost_73 (by decide)
theorem r130_74 (d : Nat) (st : List Value) (σ : am_St) (τ : Int64) (x : Int32) (v0 v1 v2 v3 v4 v5 : Value) : am_run d 130 74 [v0, v1, v2, v3, v4, v5] (.int x :: st) σ τ = am_run d 130 75 [am_nl v0, .int x, v2, v3, v4, v5] st σ τ := rr_istore_n _ dX10_layMost_74 (by decide) (by first | rfl | (by_cases h : v0.category = 2 <;> simp [am_set1, am_nl, h]))
theorem r130_75 (d : Nat) (st : List Value) (σ : am_St) (τ : Int64) (x : Int32) (v0 v2 v3 v4 v5 : Value) : am_run d 130 75 [v0, .int x, v2, v3, v4, v5] st σ τ = am_run d 130 76 [v0, .int x, v2, v3, v4, v5] (.int x :: st) σ τ := rr_iload_n dX10_layMost_75 rfl
theorem r130_76 (d : Nat) (ls st : List Value) (σ : am_St) (τ : Int64) : am_run d 130 76 ls st σ τ = am_run d 130 77 ls (.int 1 :: st) σ τ := rr_iconst 1 dX10_layMost_76 (by decide)
theorem r130_77 (d : Nat) (st : List Value) (σ : am_St) (τ : Int64) (x : Nat) (v1 v2 v3 v4 v5 : Value) : am_run d 130 77 [.ref x, v1, v2, v3, v4, v5] st σ τ = am_run d 130 78 [.ref x, v1, v2, v3, v4, v5] (.ref x :: st) σ τ := rr_aload_n dX10_layMost_77 rfl
theorem r130_78 (d : Nat) (ls st : List Value) (σ : am_St) (τ : Int64) (k : Nat) : am_run d 130 78 ls (.ref k :: st) σ τ = am_gf k 10 6 σ τ (fun v => am_run d 130 81 ls (v :: st) σ τ) := rr_getf dX10_layMost_78 (by decide +kernel)
theorem r130_81 (d : Nat) (ls st : List Value) (σ : am_St) (τ : Int64) (x y : Int32) : am_run d 130 81 ls (.int y :: .int x :: st) σ τ = am_run d 130 82 ls (.int (x <<< (y &&& 31)) :: st) σ τ := rr_ishl dX10_layMost_81
theorem r130_82 (d : Nat) (ls st : List Value) (σ : am_St) (τ : Int64) (x y : Int32) : am_run d 130 82 ls (.int y :: .int x :: st) σ τ = if y ≤ x then am_run d 130 107 ls st σ τ else am_run d 130 85 ls st σ τ := (rr_icmp 107 dX10_layMost_82 (by decide)).trans am_sel
theorem r130_85 (d : Nat) (st : List Value) (σ : am_St) (τ : Int64) (x : Nat) (v1 v2 v3 v4 v5 : Value) : am_run d 130 85 [.ref x, v1, v2, v3, v4, v5] st σ τ = am_run d 130 86 [.ref x, v1, v2, v3, v4, v5] (.ref x :: st) σ τ := rr_aload_n dX10_layMost_85 rfl
theorem r130_86 (d : Nat) (ls st : List Value) (σ : am_St) (τ : Int64) (k : Nat) : am_run d 130 86 ls (.ref k :: st) σ τ = am_gf k 10 29 σ τ (fun v => am_run d 130 89 ls (v :: st) σ τ) := rr_getf dX10_layMost_86 (by decide +kernel)
theorem r130_89 (d : Nat) (ls st : List Value) (σ : am_St) (τ : Int64) : am_run d 130 89 ls st σ τ = am_run d 130 92 ls (.int 4096 :: st) σ τ := rr_sipush 4096 dX10_layMost_89 (by decide)
theorem r130_92 (d : Nat) (st : List Value) (σ : am_St) (τ : Int64) (x : Nat) (v1 v2 v3 v4 v5 : Value) : am_run d 130 92 [.ref x, v1, v2, v3, v4, v5] st σ τ = am_run d 130 93 [.ref x, v1, v2, v3, v4, v5] (.ref x :: st) σ τ := rr_aload_n dX10_layMost_92 rfl
theorem r130_93 (d : Nat) (ls st : List Value) (σ : am_St) (τ : Int64) (k : Nat) : am_run d 130 93 ls (.ref k :: st) σ τ = am_gf k 10 6 σ τ (fun v => am_run d 130 96 ls (v :: st) σ τ) := rr_getf dX10_layMost_93 (by decide +kernel)
theorem r130_96 (d : Nat) (ls st : List Value) (σ : am_St) (τ : Int64) (x y : Int32) : am_run d 130 96 ls (.int y :: .int x :: st) σ τ = am_run d 130 97 ls (.int (x * y) :: st) σ τ := rr_imul dX10_layMost_96
theorem r130_97 (d : Nat) (st : List Value) (σ : am_St) (τ : Int64) (x : Int32) (v0 v2 v3 v4 v5 : Value) : am_run d 130 97 [v0, .int x, v2, v3, v4, v5] st σ τ = am_run d 130 98 [v0, .int x, v2, v3, v4, v5] (.int x :: st) σ τ := rr_iload_n dX10_layMost_97 rfl
theorem r130_98 (d : Nat) (ls st : List Value) (σ : am_St) (τ : Int64) (x y : Int32) : am_run d 130 98 ls (.int y :: .int x :: st) σ τ = am_run d 130 99 ls (.int (x + y) :: st) σ τ := rr_iadd dX10_layMost_98
theorem r130_99 (d : Nat) (ls st : List Value) (σ : am_St) (τ : Int64) : am_run d 130 99 ls st σ τ = am_run d 130 100 ls (.int 0 :: st) σ τ := rr_iconst 0 dX10_layMost_99 (by decide)
theorem r130_100 (d : Nat) (ls st : List Value) (σ : am_St) (τ : Int64) (x i : Int32) (k : Nat) : am_run d 130 100 ls (.int x :: .int i :: .ref k :: st) σ τ = am_ai false k i (fun j => am_run d 130 101 ls st (am_up σ k j x) τ) := rr_iast dX10_layMost_100
theorem r130_101 (d : Nat) (st : List Value) (σ : am_St) (τ : Int64) (x : Int32) (v0 v2 v3 v4 v5 : Value) : am_run d 130 101 [v0, .int x, v2, v3, v4, v5] st σ τ = am_run d 130 104 [am_nl v0, .int (x + 1), v2, v3, v4, v5] st σ τ := rr_iinc 1 _ dX10_layMost_101 rfl (by decide) (by decide) (by first | rfl | (by_cases h : v0.category = 2 <;> simp [am_set1, am_nl, h]))
theorem r130_104 (d : Nat) (ls st : List Value) (σ : am_St) (τ : Int64) : am_run d 130 104 ls st σ τ = am_run d 130 75 ls st σ τ := rr_goto 75 dX10_layMost_104 (by decide)
theorem r130_107 (d : Nat) (st : List Value) (σ : am_St) (τ : Int64) (x : Nat) (v1 v2 v3 v4 v5 : Value) : am_run d 130 107 [.ref x, v1, v2, v3, v4, v5] st σ τ = am_run d 130 108 [.ref x, v1, v2, v3, v4, v5] (.ref x :: st) σ τ := rr_aload_n dX10_layMost_107 rfl
theorem r130_108 (d : Nat) (ls st : List Value) (σ : am_St) (τ : Int64) (k : Nat) : am_run d 130 108 ls (.ref k :: st) σ τ = am_gf k 10 6 σ τ (fun v => am_run d 130 111 ls (v :: st) σ τ) := rr_getf dX10_layMost_108 (by decide +kernel)
theorem r130_111 (d : Nat) (ls st : List Value) (σ : am_St) (τ : Int64) : am_run d 130 111 ls st σ τ = am_run d 130 112 ls (.int 1 :: st) σ τ := rr_iconst 1 dX10_layMost_111 (by decide)
theorem r130_112 (d : Nat) (ls st : List Value) (σ : am_St) (τ : Int64) (x y : Int32) : am_run d 130 112 ls (.int y :: .int x :: st) σ τ = am_run d 130 113 ls (.int (x - y) :: st) σ τ := rr_isub dX10_layMost_112
theorem r130_113 (d : Nat) (st : List Value) (σ : am_St) (τ : Int64) (x : Int32) (v0 v1 v2 v3 v4 v5 : Value) : am_run d 130 113 [v0, v1, v2, v3, v4, v5] (.int x :: st) σ τ = am_run d 130 114 [am_nl v0, .int x, v2, v3, v4, v5] st σ τ := rr_istore_n _ dX10_layMost_113 (by decide) (by first | rfl | (by_cases h : v0.category = 2 <;> simp [am_set1, am_nl, h]))
theorem r130_114 (d : Nat) (st : List Value) (σ : am_St) (τ : Int64) (x : Int32) (v0 v2 v3 v4 v5 : Value) : am_run d 130 114 [v0, .int x, v2, v3, v4, v5] st σ τ = am_run d 130 115 [v0, .int x, v2, v3, v4, v5] (.int x :: st) σ τ := rr_iload_n dX10_layMost_114 rfl
theorem r130_115 (d : Nat) (ls st : List Value) (σ : am_St) (τ : Int64) (x : Int32) : am_run d 130 115 ls (.int x :: st) σ τ = if x < 0 then am_run d 130 257 ls st σ τ else am_run d 130 118 ls st σ τ := (rr_if 257 dX10_layMost_115 (by decide)).trans am_sel
theorem r130_118 (d : Nat) (ls st : List Value) (σ : am_St) (τ : Int64) : am_run d 130 118 ls st σ τ = am_run d 130 119 ls (.int 0 :: st) σ τ := rr_iconst 0 dX10_layMost_118 (by decide)
theorem r130_119 (d : Nat) (st : List Value) (σ : am_St) (τ : Int64) (x : Int32) (v0 v1 v2 v3 v4 v5 : Value) : am_run d 130 119 [v0, v1, v2, v3, v4, v5] (.int x :: st) σ τ = am_run d 130 120 [v0, am_nl v1, .int x, v3, v4, v5] st σ τ := rr_istore_n _ dX10_layMost_119 (by decide) (by first | rfl | (by_cases h : v1.category = 2 <;> simp [am_set1, am_nl, h]))
theorem r130_120 (d : Nat) (st : List Value) (σ : am_St) (τ : Int64) (x : Int32) (v0 v1 v3 v4 v5 : Value) : am_run d 130 120 [v0, v1, .int x, v3, v4, v5] st σ τ = am_run d 130 121 [v0, v1, .int x, v3, v4, v5] (.int x :: st) σ τ := rr_iload_n dX10_layMost_120 rfl
theorem r130_121 (d : Nat) (ls st : List Value) (σ : am_St) (τ : Int64) : am_run d 130 121 ls st σ τ = am_run d 130 122 ls (.int 1 :: st) σ τ := rr_iconst 1 dX10_layMost_121 (by decide)
theorem r130_122 (d : Nat) (st : List Value) (σ : am_St) (τ : Int64) (x : Nat) (v1 v2 v3 v4 v5 : Value) : am_run d 130 122 [.ref x, v1, v2, v3, v4, v5] st σ τ = am_run d 130 123 [.ref x, v1, v2, v3, v4, v5] (.ref x :: st) σ τ := rr_aload_n dX10_layMost_122 rfl
theorem r130_123 (d : Nat) (ls st : List Value) (σ : am_St) (τ : Int64) (k : Nat) : am_run d 130 123 ls (.ref k :: st) σ τ = am_gf k 10 6 σ τ (fun v => am_run d 130 126 ls (v :: st) σ τ) := rr_getf dX10_layMost_123 (by decide +kernel)
theorem r130_126 (d : Nat) (ls st : List Value) (σ : am_St) (τ : Int64) (x y : Int32) : am_run d 130 126 ls (.int y :: .int x :: st) σ τ = am_run d 130 127 ls (.int (x <<< (y &&& 31)) :: st) σ τ := rr_ishl dX10_layMost_126
theorem r130_127 (d : Nat) (ls st : List Value) (σ : am_St) (τ : Int64) (x y : Int32) : am_run d 130 127 ls (.int y :: .int x :: st) σ τ = if y ≤ x then am_run d 130 251 ls st σ τ else am_run d 130 130 ls st σ τ := (rr_icmp 251 dX10_layMost_127 (by decide)).trans am_sel
theorem r130_130 (d : Nat) (st : List Value) (σ : am_St) (τ : Int64) (x : Nat) (v1 v2 v3 v4 v5 : Value) : am_run d 130 130 [.ref x, v1, v2, v3, v4, v5] st σ τ = am_run d 130 131 [.ref x, v1, v2, v3, v4, v5] (.ref x :: st) σ τ := rr_aload_n dX10_layMost_130 rfl
theorem r130_131 (d : Nat) (ls st : List Value) (σ : am_St) (τ : Int64) (k : Nat) : am_run d 130 131 ls (.ref k :: st) σ τ = am_gf k 10 29 σ τ (fun v => am_run d 130 134 ls (v :: st) σ τ) := rr_getf dX10_layMost_131 (by decide +kernel)
theorem r130_134 (d : Nat) (ls st : List Value) (σ : am_St) (τ : Int64) : am_run d 130 134 ls st σ τ = am_run d 130 137 ls (.int 4096 :: st) σ τ := rr_sipush 4096 dX10_layMost_134 (by decide)
theorem r130_137 (d : Nat) (st : List Value) (σ : am_St) (τ : Int64) (x : Int32) (v0 v2 v3 v4 v5 : Value) : am_run d 130 137 [v0, .int x, v2, v3, v4, v5] st σ τ = am_run d 130 138 [v0, .int x, v2, v3, v4, v5] (.int x :: st) σ τ := rr_iload_n dX10_layMost_137 rfl
theorem r130_138 (d : Nat) (ls st : List Value) (σ : am_St) (τ : Int64) : am_run d 130 138 ls st σ τ = am_run d 130 139 ls (.int 1 :: st) σ τ := rr_iconst 1 dX10_layMost_138 (by decide)
theorem r130_139 (d : Nat) (ls st : List Value) (σ : am_St) (τ : Int64) (x y : Int32) : am_run d 130 139 ls (.int y :: .int x :: st) σ τ = am_run d 130 140 ls (.int (x + y) :: st) σ τ := rr_iadd dX10_layMost_139
theorem r130_140 (d : Nat) (ls st : List Value) (σ : am_St) (τ : Int64) (x y : Int32) : am_run d 130 140 ls (.int y :: .int x :: st) σ τ = am_run d 130 141 ls (.int (x * y) :: st) σ τ := rr_imul dX10_layMost_140
theorem r130_141 (d : Nat) (st : List Value) (σ : am_St) (τ : Int64) (x : Int32) (v0 v1 v3 v4 v5 : Value) : am_run d 130 141 [v0, v1, .int x, v3, v4, v5] st σ τ = am_run d 130 142 [v0, v1, .int x, v3, v4, v5] (.int x :: st) σ τ := rr_iload_n dX10_layMost_141 rfl
theorem r130_142 (d : Nat) (ls st : List Value) (σ : am_St) (τ : Int64) (x y : Int32) : am_run d 130 142 ls (.int y :: .int x :: st) σ τ = am_run d 130 143 ls (.int (x + y) :: st) σ τ := rr_iadd dX10_layMost_142
theorem r130_143 (d : Nat) (ls st : List Value) (σ : am_St) (τ : Int64) (i : Int32) (k : Nat) : am_run d 130 143 ls (.int i :: .ref k :: st) σ τ = am_ai false k i (fun j => am_run d 130 144 ls (.int (σ k j) :: st) σ τ) := rr_iald dX10_layMost_143
theorem r130_144 (d : Nat) (st : List Value) (σ : am_St) (τ : Int64) (x : Int32) (v0 v1 v2 v3 v4 v5 : Value) : am_run d 130 144 [v0, v1, v2, v3, v4, v5] (.int x :: st) σ τ = am_run d 130 145 [v0, v1, am_nl v2, .int x, v4, v5] st σ τ := rr_istore_n _ dX10_layMost_144 (by decide) (by first | rfl | (by_cases h : v2.category = 2 <;> simp [am_set1, am_nl, h]))
theorem r130_145 (d : Nat) (ls st : List Value) (σ : am_St) (τ : Int64) : am_run d 130 145 ls st σ τ = am_run d 130 146 ls (.int 0 :: st) σ τ := rr_iconst 0 dX10_layMost_145 (by decide)
theorem r130_146 (d : Nat) (st : List Value) (σ : am_St) (τ : Int64) (x : Int32) (v0 v1 v2 v3 v4 v5 : Value) : am_run d 130 146 [v0, v1, v2, v3, v4, v5] (.int x :: st) σ τ = am_run d 130 148 [v0, v1, v2, am_nl v3, .int x, v5] st σ τ := rr_istore _ dX10_layMost_146 (by decide) (by first | rfl | (by_cases h : v3.category = 2 <;> simp [am_set1, am_nl, h]))
theorem r130_148 (d : Nat) (st : List Value) (σ : am_St) (τ : Int64) (x : Int32) (v0 v1 v2 v3 v5 : Value) : am_run d 130 148 [v0, v1, v2, v3, .int x, v5] st σ τ = am_run d 130 150 [v0, v1, v2, v3, .int x, v5] (.int x :: st) σ τ := rr_iload dX10_layMost_148 rfl
theorem r130_150 (d : Nat) (st : List Value) (σ : am_St) (τ : Int64) (x : Nat) (v1 v2 v3 v4 v5 : Value) : am_run d 130 150 [.ref x, v1, v2, v3, v4, v5] st σ τ = am_run d 130 151 [.ref x, v1, v2, v3, v4, v5] (.ref x :: st) σ τ := rr_aload_n dX10_layMost_150 rfl
theorem r130_151 (d : Nat) (ls st : List Value) (σ : am_St) (τ : Int64) (k : Nat) : am_run d 130 151 ls (.ref k :: st) σ τ = am_gf k 10 6 σ τ (fun v => am_run d 130 154 ls (v :: st) σ τ) := rr_getf dX10_layMost_151 (by decide +kernel)
theorem r130_154 (d : Nat) (ls st : List Value) (σ : am_St) (τ : Int64) (x y : Int32) : am_run d 130 154 ls (.int y :: .int x :: st) σ τ = if y ≤ x then am_run d 130 232 ls st σ τ else am_run d 130 157 ls st σ τ := (rr_icmp 232 dX10_layMost_154 (by decide)).trans am_sel
theorem r130_157 (d : Nat) (st : List Value) (σ : am_St) (τ : Int64) (x : Nat) (v1 v2 v3 v4 v5 : Value) : am_run d 130 157 [.ref x, v1, v2, v3, v4, v5] st σ τ = am_run d 130 158 [.ref x, v1, v2, v3, v4, v5] (.ref x :: st) σ τ := rr_aload_n dX10_layMost_157 rfl
theorem r130_158 (d : Nat) (ls st : List Value) (σ : am_St) (τ : Int64) (k : Nat) : am_run d 130 158 ls (.ref k :: st) σ τ = am_gf k 10 31 σ τ (fun v => am_run d 130 161 ls (v :: st) σ τ) := rr_getf dX10_layMost_158 (by decide +kernel)
theorem r130_161 (d : Nat) (st : List Value) (σ : am_St) (τ : Int64) (x : Int32) (v0 v2 v3 v4 v5 : Value) : am_run d 130 161 [v0, .int x, v2, v3, v4, v5] st σ τ = am_run d 130 162 [v0, .int x, v2, v3, v4, v5] (.int x :: st) σ τ := rr_iload_n dX10_layMost_161 rfl
theorem r130_162 (d : Nat) (ls st : List Value) (σ : am_St) (τ : Int64) (i : Int32) (k : Nat) : am_run d 130 162 ls (.int i :: .ref k :: st) σ τ = am_ai false k i (fun j => am_run d 130 163 ls (.int (σ k j) :: st) σ τ) := rr_iald dX10_layMost_162
theorem r130_163 (d : Nat) (ls st : List Value) (σ : am_St) (τ : Int64) (x : Int32) : am_run d 130 163 ls (.int x :: st) σ τ = if x = 0 then am_run d 130 232 ls st σ τ else am_run d 130 166 ls st σ τ := (rr_if 232 dX10_layMost_163 (by decide)).trans am_sel
theorem r130_166 (d : Nat) (st : List Value) (σ : am_St) (τ : Int64) (x : Nat) (v1 v2 v3 v4 v5 : Value) : am_run d 130 166 [.ref x, v1, v2, v3, v4, v5] st σ τ = am_run d 130 167 [.ref x, v1, v2, v3, v4, v5] (.ref x :: st) σ τ := rr_aload_n dX10_layMost_166 rfl
theorem r130_167 (d : Nat) (ls st : List Value) (σ : am_St) (τ : Int64) (k : Nat) : am_run d 130 167 ls (.ref k :: st) σ τ = am_gf k 10 31 σ τ (fun v => am_run d 130 170 ls (v :: st) σ τ) := rr_getf dX10_layMost_167 (by decide +kernel)
theorem r130_170 (d : Nat) (st : List Value) (σ : am_St) (τ : Int64) (x : Int32) (v0 v2 v3 v4 v5 : Value) : am_run d 130 170 [v0, .int x, v2, v3, v4, v5] st σ τ = am_run d 130 171 [v0, .int x, v2, v3, v4, v5] (.int x :: st) σ τ := rr_iload_n dX10_layMost_170 rfl
theorem r130_171 (d : Nat) (ls st : List Value) (σ : am_St) (τ : Int64) (i : Int32) (k : Nat) : am_run d 130 171 ls (.int i :: .ref k :: st) σ τ = am_ai false k i (fun j => am_run d 130 172 ls (.int (σ k j) :: st) σ τ) := rr_iald dX10_layMost_171
theorem r130_172 (d : Nat) (st : List Value) (σ : am_St) (τ : Int64) (x : Int32) (v0 v1 v2 v3 v5 : Value) : am_run d 130 172 [v0, v1, v2, v3, .int x, v5] st σ τ = am_run d 130 174 [v0, v1, v2, v3, .int x, v5] (.int x :: st) σ τ := rr_iload dX10_layMost_172 rfl
theorem r130_174 (d : Nat) (ls st : List Value) (σ : am_St) (τ : Int64) (x y : Int32) : am_run d 130 174 ls (.int y :: .int x :: st) σ τ = am_run d 130 175 ls (.int (x >>> (y &&& 31)) :: st) σ τ := rr_ishr dX10_layMost_174
theorem r130_175 (d : Nat) (ls st : List Value) (σ : am_St) (τ : Int64) : am_run d 130 175 ls st σ τ = am_run d 130 176 ls (.int 1 :: st) σ τ := rr_iconst 1 dX10_layMost_175 (by decide)
theorem r130_176 (d : Nat) (ls st : List Value) (σ : am_St) (τ : Int64) (x y : Int32) : am_run d 130 176 ls (.int y :: .int x :: st) σ τ = am_run d 130 177 ls (.int (x &&& y) :: st) σ τ := rr_iand dX10_layMost_176
theorem r130_177 (d : Nat) (ls st : List Value) (σ : am_St) (τ : Int64) : am_run d 130 177 ls st σ τ = am_run d 130 178 ls (.int 1 :: st) σ τ := rr_iconst 1 dX10_layMost_177 (by decide)
theorem r130_178 (d : Nat) (ls st : List Value) (σ : am_St) (τ : Int64) (x y : Int32) : am_run d 130 178 ls (.int y :: .int x :: st) σ τ = if x = y then am_run d 130 181 ls st σ τ else am_run d 130 226 ls st σ τ := (rr_icmp 226 dX10_layMost_178 (by decide)).trans am_seln
theorem r130_181 (d : Nat) (st : List Value) (σ : am_St) (τ : Int64) (x : Int32) (v0 v1 v3 v4 v5 : Value) : am_run d 130 181 [v0, v1, .int x, v3, v4, v5] st σ τ = am_run d 130 182 [v0, v1, .int x, v3, v4, v5] (.int x :: st) σ τ := rr_iload_n dX10_layMost_181 rfl
theorem r130_182 (d : Nat) (st : List Value) (σ : am_St) (τ : Int64) (x : Int32) (v0 v1 v2 v3 v5 : Value) : am_run d 130 182 [v0, v1, v2, v3, .int x, v5] st σ τ = am_run d 130 184 [v0, v1, v2, v3, .int x, v5] (.int x :: st) σ τ := rr_iload dX10_layMost_182 rfl
theorem r130_184 (d : Nat) (ls st : List Value) (σ : am_St) (τ : Int64) (x y : Int32) : am_run d 130 184 ls (.int y :: .int x :: st) σ τ = am_run d 130 185 ls (.int (x >>> (y &&& 31)) :: st) σ τ := rr_ishr dX10_layMost_184
theorem r130_185 (d : Nat) (ls st : List Value) (σ : am_St) (τ : Int64) : am_run d 130 185 ls st σ τ = am_run d 130 186 ls (.int 1 :: st) σ τ := rr_iconst 1 dX10_layMost_185 (by decide)
theorem r130_186 (d : Nat) (ls st : List Value) (σ : am_St) (τ : Int64) (x y : Int32) : am_run d 130 186 ls (.int y :: .int x :: st) σ τ = am_run d 130 187 ls (.int (x &&& y) :: st) σ τ := rr_iand dX10_layMost_186
theorem r130_187 (d : Nat) (ls st : List Value) (σ : am_St) (τ : Int64) (x : Int32) : am_run d 130 187 ls (.int x :: st) σ τ = if x = 0 then am_run d 130 190 ls st σ τ else am_run d 130 226 ls st σ τ := (rr_if 226 dX10_layMost_187 (by decide)).trans am_seln
theorem r130_190 (d : Nat) (ls st : List Value) (σ : am_St) (τ : Int64) : am_run d 130 190 ls st σ τ = am_run d 130 191 ls (.int 1 :: st) σ τ := rr_iconst 1 dX10_layMost_190 (by decide)
theorem r130_191 (d : Nat) (st : List Value) (σ : am_St) (τ : Int64) (x : Nat) (v1 v2 v3 v4 v5 : Value) : am_run d 130 191 [.ref x, v1, v2, v3, v4, v5] st σ τ = am_run d 130 192 [.ref x, v1, v2, v3, v4, v5] (.ref x :: st) σ τ := rr_aload_n dX10_layMost_191 rfl
theorem r130_192 (d : Nat) (ls st : List Value) (σ : am_St) (τ : Int64) (k : Nat) : am_run d 130 192 ls (.ref k :: st) σ τ = am_gf k 10 29 σ τ (fun v => am_run d 130 195 ls (v :: st) σ τ) := rr_getf dX10_layMost_192 (by decide +kernel)
theorem r130_195 (d : Nat) (ls st : List Value) (σ : am_St) (τ : Int64) : am_run d 130 195 ls st σ τ = am_run d 130 198 ls (.int 4096 :: st) σ τ := rr_sipush 4096 dX10_layMost_195 (by decide)
theorem r130_198 (d : Nat) (st : List Value) (σ : am_St) (τ : Int64) (x : Int32) (v0 v2 v3 v4 v5 : Value) : am_run d 130 198 [v0, .int x, v2, v3, v4, v5] st σ τ = am_run d 130 199 [v0, .int x, v2, v3, v4, v5] (.int x :: st) σ τ := rr_iload_n dX10_layMost_198 rfl
theorem r130_199 (d : Nat) (ls st : List Value) (σ : am_St) (τ : Int64) : am_run d 130 199 ls st σ τ = am_run d 130 200 ls (.int 1 :: st) σ τ := rr_iconst 1 dX10_layMost_199 (by decide)
theorem r130_200 (d : Nat) (ls st : List Value) (σ : am_St) (τ : Int64) (x y : Int32) : am_run d 130 200 ls (.int y :: .int x :: st) σ τ = am_run d 130 201 ls (.int (x + y) :: st) σ τ := rr_iadd dX10_layMost_200
theorem r130_201 (d : Nat) (ls st : List Value) (σ : am_St) (τ : Int64) (x y : Int32) : am_run d 130 201 ls (.int y :: .int x :: st) σ τ = am_run d 130 202 ls (.int (x * y) :: st) σ τ := rr_imul dX10_layMost_201
theorem r130_202 (d : Nat) (st : List Value) (σ : am_St) (τ : Int64) (x : Int32) (v0 v1 v3 v4 v5 : Value) : am_run d 130 202 [v0, v1, .int x, v3, v4, v5] st σ τ = am_run d 130 203 [v0, v1, .int x, v3, v4, v5] (.int x :: st) σ τ := rr_iload_n dX10_layMost_202 rfl
theorem r130_203 (d : Nat) (ls st : List Value) (σ : am_St) (τ : Int64) : am_run d 130 203 ls st σ τ = am_run d 130 204 ls (.int 1 :: st) σ τ := rr_iconst 1 dX10_layMost_203 (by decide)
theorem r130_204 (d : Nat) (st : List Value) (σ : am_St) (τ : Int64) (x : Int32) (v0 v1 v2 v3 v5 : Value) : am_run d 130 204 [v0, v1, v2, v3, .int x, v5] st σ τ = am_run d 130 206 [v0, v1, v2, v3, .int x, v5] (.int x :: st) σ τ := rr_iload dX10_layMost_204 rfl
theorem r130_206 (d : Nat) (ls st : List Value) (σ : am_St) (τ : Int64) (x y : Int32) : am_run d 130 206 ls (.int y :: .int x :: st) σ τ = am_run d 130 207 ls (.int (x <<< (y &&& 31)) :: st) σ τ := rr_ishl dX10_layMost_206
theorem r130_207 (d : Nat) (ls st : List Value) (σ : am_St) (τ : Int64) (x y : Int32) : am_run d 130 207 ls (.int y :: .int x :: st) σ τ = am_run d 130 208 ls (.int (x ||| y) :: st) σ τ := rr_ior dX10_layMost_207
theorem r130_208 (d : Nat) (ls st : List Value) (σ : am_St) (τ : Int64) (x y : Int32) : am_run d 130 208 ls (.int y :: .int x :: st) σ τ = am_run d 130 209 ls (.int (x + y) :: st) σ τ := rr_iadd dX10_layMost_208
theorem r130_209 (d : Nat) (ls st : List Value) (σ : am_St) (τ : Int64) (i : Int32) (k : Nat) : am_run d 130 209 ls (.int i :: .ref k :: st) σ τ = am_ai false k i (fun j => am_run d 130 210 ls (.int (σ k j) :: st) σ τ) := rr_iald dX10_layMost_209
theorem r130_210 (d : Nat) (ls st : List Value) (σ : am_St) (τ : Int64) (x y : Int32) : am_run d 130 210 ls (.int y :: .int x :: st) σ τ = am_run d 130 211 ls (.int (x + y) :: st) σ τ := rr_iadd dX10_layMost_210
theorem r130_211 (d : Nat) (st : List Value) (σ : am_St) (τ : Int64) (x : Int32) (v0 v1 v2 v3 v4 v5 : Value) : am_run d 130 211 [v0, v1, v2, v3, v4, v5] (.int x :: st) σ τ = am_run d 130 213 [v0, v1, v2, v3, am_nl v4, .int x] st σ τ := rr_istore _ dX10_layMost_211 (by decide) (by first | rfl | (by_cases h : v4.category = 2 <;> simp [am_set1, am_nl, h]))
theorem r130_213 (d : Nat) (st : List Value) (σ : am_St) (τ : Int64) (x : Int32) (v0 v1 v2 v3 v4 : Value) : am_run d 130 213 [v0, v1, v2, v3, v4, .int x] st σ τ = am_run d 130 215 [v0, v1, v2, v3, v4, .int x] (.int x :: st) σ τ := rr_iload dX10_layMost_213 rfl
theorem r130_215 (d : Nat) (st : List Value) (σ : am_St) (τ : Int64) (x : Int32) (v0 v1 v2 v4 v5 : Value) : am_run d 130 215 [v0, v1, v2, .int x, v4, v5] st σ τ = am_run d 130 216 [v0, v1, v2, .int x, v4, v5] (.int x :: st) σ τ := rr_iload_n dX10_layMost_215 rfl
theorem r130_216 (d : Nat) (ls st : List Value) (σ : am_St) (τ : Int64) (x y : Int32) : am_run d 130 216 ls (.int y :: .int x :: st) σ τ = if x ≤ y then am_run d 130 224 ls st σ τ else am_run d 130 219 ls st σ τ := (rr_icmp 224 dX10_layMost_216 (by decide)).trans am_sel
theorem r130_219 (d : Nat) (st : List Value) (σ : am_St) (τ : Int64) (x : Int32) (v0 v1 v2 v3 v4 : Value) : am_run d 130 219 [v0, v1, v2, v3, v4, .int x] st σ τ = am_run d 130 221 [v0, v1, v2, v3, v4, .int x] (.int x :: st) σ τ := rr_iload dX10_layMost_219 rfl
theorem r130_221 (d : Nat) (ls st : List Value) (σ : am_St) (τ : Int64) : am_run d 130 221 ls st σ τ = am_run d 130 225 ls st σ τ := rr_goto 225 dX10_layMost_221 (by decide)
theorem r130_224 (d : Nat) (st : List Value) (σ : am_St) (τ : Int64) (x : Int32) (v0 v1 v2 v4 v5 : Value) : am_run d 130 224 [v0, v1, v2, .int x, v4, v5] st σ τ = am_run d 130 225 [v0, v1, v2, .int x, v4, v5] (.int x :: st) σ τ := rr_iload_n dX10_layMost_224 rfl
theorem r130_225 (d : Nat) (st : List Value) (σ : am_St) (τ : Int64) (x : Int32) (v0 v1 v2 v3 v4 v5 : Value) : am_run d 130 225 [v0, v1, v2, v3, v4, v5] (.int x :: st) σ τ = am_run d 130 226 [v0, v1, am_nl v2, .int x, v4, v5] st σ τ := rr_istore_n _ dX10_layMost_225 (by decide) (by first | rfl | (by_cases h : v2.category = 2 <;> simp [am_set1, am_nl, h]))
theorem r130_226 (d : Nat) (st : List Value) (σ : am_St) (τ : Int64) (x : Int32) (v0 v1 v2 v3 v5 : Value) : am_run d 130 226 [v0, v1, v2, v3, .int x, v5] st σ τ = am_run d 130 229 [v0, v1, v2, am_nl v3, .int (x + 1), v5] st σ τ := rr_iinc 1 _ dX10_layMost_226 rfl (by decide) (by decide) (by first | rfl | (by_cases h : v3.category = 2 <;> simp [am_set1, am_nl, h]))
theorem r130_229 (d : Nat) (ls st : List Value) (σ : am_St) (τ : Int64) : am_run d 130 229 ls st σ τ = am_run d 130 148 ls st σ τ := rr_goto 148 dX10_layMost_229 (by decide)
theorem r130_232 (d : Nat) (st : List Value) (σ : am_St) (τ : Int64) (x : Nat) (v1 v2 v3 v4 v5 : Value) : am_run d 130 232 [.ref x, v1, v2, v3, v4, v5] st σ τ = am_run d 130 233 [.ref x, v1, v2, v3, v4, v5] (.ref x :: st) σ τ := rr_aload_n dX10_layMost_232 rfl
theorem r130_233 (d : Nat) (ls st : List Value) (σ : am_St) (τ : Int64) (k : Nat) : am_run d 130 233 ls (.ref k :: st) σ τ = am_gf k 10 29 σ τ (fun v => am_run d 130 236 ls (v :: st) σ τ) := rr_getf dX10_layMost_233 (by decide +kernel)
theorem r130_236 (d : Nat) (ls st : List Value) (σ : am_St) (τ : Int64) : am_run d 130 236 ls st σ τ = am_run d 130 239 ls (.int 4096 :: st) σ τ := rr_sipush 4096 dX10_layMost_236 (by decide)
theorem r130_239 (d : Nat) (st : List Value) (σ : am_St) (τ : Int64) (x : Int32) (v0 v2 v3 v4 v5 : Value) : am_run d 130 239 [v0, .int x, v2, v3, v4, v5] st σ τ = am_run d 130 240 [v0, .int x, v2, v3, v4, v5] (.int x :: st) σ τ := rr_iload_n dX10_layMost_239 rfl
theorem r130_240 (d : Nat) (ls st : List Value) (σ : am_St) (τ : Int64) (x y : Int32) : am_run d 130 240 ls (.int y :: .int x :: st) σ τ = am_run d 130 241 ls (.int (x * y) :: st) σ τ := rr_imul dX10_layMost_240
theorem r130_241 (d : Nat) (st : List Value) (σ : am_St) (τ : Int64) (x : Int32) (v0 v1 v3 v4 v5 : Value) : am_run d 130 241 [v0, v1, .int x, v3, v4, v5] st σ τ = am_run d 130 242 [v0, v1, .int x, v3, v4, v5] (.int x :: st) σ τ := rr_iload_n dX10_layMost_241 rfl
theorem r130_242 (d : Nat) (ls st : List Value) (σ : am_St) (τ : Int64) (x y : Int32) : am_run d 130 242 ls (.int y :: .int x :: st) σ τ = am_run d 130 243 ls (.int (x + y) :: st) σ τ := rr_iadd dX10_layMost_242
theorem r130_243 (d : Nat) (st : List Value) (σ : am_St) (τ : Int64) (x : Int32) (v0 v1 v2 v4 v5 : Value) : am_run d 130 243 [v0, v1, v2, .int x, v4, v5] st σ τ = am_run d 130 244 [v0, v1, v2, .int x, v4, v5] (.int x :: st) σ τ := rr_iload_n dX10_layMost_243 rfl
theorem r130_244 (d : Nat) (ls st : List Value) (σ : am_St) (τ : Int64) (x i : Int32) (k : Nat) : am_run d 130 244 ls (.int x :: .int i :: .ref k :: st) σ τ = am_ai false k i (fun j => am_run d 130 245 ls st (am_up σ k j x) τ) := rr_iast dX10_layMost_244
theorem r130_245 (d : Nat) (st : List Value) (σ : am_St) (τ : Int64) (x : Int32) (v0 v1 v3 v4 v5 : Value) : am_run d 130 245 [v0, v1, .int x, v3, v4, v5] st σ τ = am_run d 130 248 [v0, am_nl v1, .int (x + 1), v3, v4, v5] st σ τ := rr_iinc 1 _ dX10_layMost_245 rfl (by decide) (by decide) (by first | rfl | (by_cases h : v1.category = 2 <;> simp [am_set1, am_nl, h]))
theorem r130_248 (d : Nat) (ls st : List Value) (σ : am_St) (τ : Int64) : am_run d 130 248 ls st σ τ = am_run d 130 120 ls st σ τ := rr_goto 120 dX10_layMost_248 (by decide)
theorem r130_251 (d : Nat) (st : List Value) (σ : am_St) (τ : Int64) (x : Int32) (v0 v2 v3 v4 v5 : Value) : am_run d 130 251 [v0, .int x, v2, v3, v4, v5] st σ τ = am_run d 130 254 [am_nl v0, .int (x + (-1)), v2, v3, v4, v5] st σ τ := rr_iinc (-1) _ dX10_layMost_251 rfl (by decide) (by decide) (by first | rfl | (by_cases h : v0.category = 2 <;> simp [am_set1, am_nl, h]))
theorem r130_254 (d : Nat) (ls st : List Value) (σ : am_St) (τ : Int64) : am_run d 130 254 ls st σ τ = am_run d 130 114 ls st σ τ := rr_goto 114 dX10_layMost_254 (by decide)
theorem r130_257 (d : Nat) (ls : List Value) (σ : am_St) (τ : Int64) : am_run d 130 257 ls [] σ τ = some (none, σ, τ) := rr_vret dX10_layMost_257 rfl
theorem dX10_layCouples_0 : decode (am_code 131) 0 = .ok (.aload_n 0, 1) := by decide +kernel
theorem dX10_layCouples_1 : decode (am_code 131) 1 = .ok (.invokevirtual 168, 3) := by decide +kernel
theorem dX10_layCouples_4 : decode (am_code 131) 4 = .ok (.aload_n 0, 1) := by decide +kernel
theorem dX10_layCouples_5 : decode (am_code 131) 5 = .ok (.invokevirtual 224, 3) := by decide +kernel
theorem dX10_layCouples_8 : decode (am_code 131) 8 = .ok (.iconst 0, 1) := by decide +kernel
theorem dX10_layCouples_9 : decode (am_code 131) 9 = .ok (.istore_n 1, 1) := by decide +kernel
theorem dX10_layCouples_10 : decode (am_code 131) 10 = .ok (.iload_n 1, 1) := by decide +kernel
theorem dX10_layCouples_11 : decode (am_code 131) 11 = .ok (.bipush 12, 2) := by decide +kernel
theorem dX10_layCouples_13 : decode (am_code 131) 13 = .ok (.if_icmp .ge 16, 3) := by decide +kernel
theorem dX10_layCouples_16 : decode (am_code 131) 16 = .ok (.aload_n 0, 1) := by decide +kernel
theorem dX10_layCouples_17 : decode (am_code 131) 17 = .ok (.getfield 83, 3) := by decide +kernel
theorem dX10_layCouples_20 : decode (am_code 131) 20 = .ok (.iload_n 1, 1) := by decide +kernel
theorem dX10_layCouples_21 : decode (am_code 131) 21 = .ok (.iconst (-1), 1) := by decide +kernel
theorem dX10_layCouples_22 : decode (am_code 131) 22 = .ok (.iastore, 1) := by decide +kernel
theorem dX10_layCouples_23 : decode (am_code 131) 23 = .ok (.iinc 1 1, 3) := by decide +kernel
theorem dX10_layCouples_26 : decode (am_code 131) 26 = .ok (.goto (-16), 3) := by decide +kernel
theorem dX10_layCouples_29 : decode (am_code 131) 29 = .ok (.iconst 0, 1) := by decide +kernel
theorem dX10_layCouples_30 : decode (am_code 131) 30 = .ok (.istore_n 1, 1) := by decide +kernel
theorem dX10_layCouples_31 : decode (am_code 131) 31 = .ok (.iconst 0, 1) := by decide +kernel
theorem dX10_layCouples_32 : decode (am_code 131) 32 = .ok (.istore_n 2, 1) := by decide +kernel
theorem dX10_layCouples_33 : decode (am_code 131) 33 = .ok (.iload_n 2, 1) := by decide +kernel
theorem dX10_layCouples_34 : decode (am_code 131) 34 = .ok (.aload_n 0, 1) := by decide +kernel
theorem dX10_layCouples_35 : decode (am_code 131) 35 = .ok (.getfield 129, 3) := by decide +kernel
theorem dX10_layCouples_38 : decode (am_code 131) 38 = .ok (.if_icmp .ge 170, 3) := by decide +kernel
theorem dX10_layCouples_41 : decode (am_code 131) 41 = .ok (.aload_n 0, 1) := by decide +kernel
theorem dX10_layCouples_42 : decode (am_code 131) 42 = .ok (.getfield 80, 3) := by decide +kernel
theorem dX10_layCouples_45 : decode (am_code 131) 45 = .ok (.sipush 4096, 3) := by decide +kernel
theorem dX10_layCouples_48 : decode (am_code 131) 48 = .ok (.iload_n 2, 1) := by decide +kernel
theorem dX10_layCouples_49 : decode (am_code 131) 49 = .ok (.imul, 1) := by decide +kernel
theorem dX10_layCouples_50 : decode (am_code 131) 50 = .ok (.iload_n 1, 1) := by decide +kernel
theorem dX10_layCouples_51 : decode (am_code 131) 51 = .ok (.iadd, 1) := by decide +kernel
theorem dX10_layCouples_52 : decode (am_code 131) 52 = .ok (.iaload, 1) := by decide +kernel
theorem dX10_layCouples_53 : decode (am_code 131) 53 = .ok (.istore_n 3, 1) := by decide +kernel
theorem dX10_layCouples_54 : decode (am_code 131) 54 = .ok (.iconst 0, 1) := by decide +kernel
theorem dX10_layCouples_55 : decode (am_code 131) 55 = .ok (.istore 4, 2) := by decide +kernel
theorem dX10_layCouples_57 : decode (am_code 131) 57 = .ok (.iload 4, 2) := by decide +kernel
theorem dX10_layCouples_59 : decode (am_code 131) 59 = .ok (.aload_n 0, 1) := by decide +kernel
theorem dX10_layCouples_60 : decode (am_code 131) 60 = .ok (.getfield 129, 3) := by decide +kernel
theorem dX10_layCouples_63 : decode (am_code 131) 63 = .ok (.if_icmp .ge 105, 3) := by decide +kernel
theorem dX10_layCouples_66 : decode (am_code 131) 66 = .ok (.aload_n 0, 1) := by decide +kernel
theorem dX10_layCouples_67 : decode (am_code 131) 67 = .ok (.getfield 83, 3) := by decide +kernel
theorem dX10_layCouples_70 : decode (am_code 131) 70 = .ok (.iload_n 2, 1) := by decide +kernel
theorem dX10_layCouples_71 : decode (am_code 131) 71 = .ok (.iaload, 1) := by decide +kernel
theorem dX10_layCouples_72 : decode (am_code 131) 72 = .ok (.iconst (-1), 1) := by decide +kernel
theorem dX10_layCouples_73 : decode (am_code 131) 73 = .ok (.if_icmp .ne 95, 3) := by decide +kernel
theorem dX10_layCouples_76 : decode (am_code 131) 76 = .ok (.aload_n 0, 1) := by decide +kernel
theorem dX10_layCouples_77 : decode (am_code 131) 77 = .ok (.getfield 22, 3) := by decide +kernel
theorem dX10_layCouples_80 : decode (am_code 131) 80 = .ok (.iload_n 2, 1) := by decide +kernel
theorem dX10_layCouples_81 : decode (am_code 131) 81 = .ok (.iaload, 1) := by decide +kernel
theorem dX10_layCouples_82 : decode (am_code 131) 82 = .ok (.ifCond .ne 86, 3) := by decide +kernel
theorem dX10_layCouples_85 : decode (am_code 131) 85 = .ok (.aload_n 0, 1) := by decide +kernel
theorem dX10_layCouples_86 : decode (am_code 131) 86 = .ok (.getfield 86, 3) := by decide +kernel
theorem dX10_layCouples_89 : decode (am_code 131) 89 = .ok (.iload_n 2, 1) := by decide +kernel
theorem dX10_layCouples_90 : decode (am_code 131) 90 = .ok (.iaload, 1) := by decide +kernel
theorem dX10_layCouples_91 : decode (am_code 131) 91 = .ok (.iload 4, 2) := by decide +kernel
theorem dX10_layCouples_93 : decode (am_code 131) 93 = .ok (.ishr, 1) := by decide +kernel
theorem dX10_layCouples_94 : decode (am_code 131) 94 = .ok (.iconst 1, 1) := by decide +kernel
theorem dX10_layCouples_95 : decode (am_code 131) 95 = .ok (.iand, 1) := by decide +kernel
theorem dX10_layCouples_96 : decode (am_code 131) 96 = .ok (.iconst 1, 1) := by decide +kernel
theorem dX10_layCouples_97 : decode (am_code 131) 97 = .ok (.if_icmp .ne 16, 3) := by decide +kernel
theorem dX10_layCouples_100 : decode (am_code 131) 100 = .ok (.iload_n 1, 1) := by decide +kernel
theorem dX10_layCouples_101 : decode (am_code 131) 101 = .ok (.iload 4, 2) := by decide +kernel
theorem dX10_layCouples_103 : decode (am_code 131) 103 = .ok (.ishr, 1) := by decide +kernel
theorem dX10_layCouples_104 : decode (am_code 131) 104 = .ok (.iconst 1, 1) := by decide +kernel
theorem dX10_layCouples_105 : decode (am_code 131) 105 = .ok (.iand, 1) := by decide +kernel
theorem dX10_layCouples_106 : decode (am_code 131) 106 = .ok (.ifCond .ne 7, 3) := by decide +kernel
theorem dX10_layCouples_109 : decode (am_code 131) 109 = .ok (.iconst 1, 1) := by decide +kernel
theorem dX10_layCouples_110 : decode (am_code 131) 110 = .ok (.goto 4, 3) := by decide +kernel
theorem dX10_layCouples_113 : decode (am_code 131) 113 = .ok (.iconst 0, 1) := by decide +kernel
theorem dX10_layCouples_114 : decode (am_code 131) 114 = .ok (.istore 5, 2) := by decide +kernel
theorem dX10_layCouples_116 : decode (am_code 131) 116 = .ok (.iload 5, 2) := by decide +kernel
theorem dX10_layCouples_118 : decode (am_code 131) 118 = .ok (.ifCond .eq 44, 3) := by decide +kernel
theorem dX10_layCouples_121 : decode (am_code 131) 121 = .ok (.iconst 1, 1) := by decide +kernel
theorem dX10_layCouples_122 : decode (am_code 131) 122 = .ok (.aload_n 0, 1) := by decide +kernel
theorem dX10_layCouples_123 : decode (am_code 131) 123 = .ok (.getfield 80, 3) := by decide +kernel
theorem dX10_layCouples_126 : decode (am_code 131) 126 = .ok (.sipush 4096, 3) := by decide +kernel
theorem dX10_layCouples_129 : decode (am_code 131) 129 = .ok (.iload_n 2, 1) := by decide +kernel
theorem dX10_layCouples_130 : decode (am_code 131) 130 = .ok (.iconst 1, 1) := by decide +kernel
theorem dX10_layCouples_131 : decode (am_code 131) 131 = .ok (.iadd, 1) := by decide +kernel
theorem dX10_layCouples_132 : decode (am_code 131) 132 = .ok (.imul, 1) := by decide +kernel
theorem dX10_layCouples_133 : decode (am_code 131) 133 = .ok (.iload_n 1, 1) := by decide +kernel
theorem dX10_layCouples_134 : decode (am_code 131) 134 = .ok (.iconst 1, 1) := by decide +kernel
theorem dX10_layCouples_135 : decode (am_code 131) 135 = .ok (.iload 4, 2) := by decide +kernel
theorem dX10_layCouples_137 : decode (am_code 131) 137 = .ok (.ishl, 1) := by decide +kernel
theorem dX10_layCouples_138 : decode (am_code 131) 138 = .ok (.ior, 1) := by decide +kernel
theorem dX10_layCouples_139 : decode (am_code 131) 139 = .ok (.iadd, 1) := by decide +kernel
theorem dX10_layCouples_140 : decode (am_code 131) 140 = .ok (.iaload, 1) := by decide +kernel
theorem dX10_layCouples_141 : decode (am_code 131) 141 = .ok (.iadd, 1) := by decide +kernel
theorem dX10_layCouples_142 : decode (am_code 131) 142 = .ok (.iload_n 3, 1) := by decide +kernel
theorem dX10_layCouples_143 : decode (am_code 131) 143 = .ok (.if_icmp .ne 19, 3) := by decide +kernel
theorem dX10_layCouples_146 : decode (am_code 131) 146 = .ok (.aload_n 0, 1) := by decide +kernel
theorem dX10_layCouples_147 : decode (am_code 131) 147 = .ok (.getfield 83, 3) := by decide +kernel
theorem dX10_layCouples_150 : decode (am_code 131) 150 = .ok (.iload_n 2, 1) := by decide +kernel
theorem dX10_layCouples_151 : decode (am_code 131) 151 = .ok (.iload 4, 2) := by decide +kernel
theorem dX10_layCouples_153 : decode (am_code 131) 153 = .ok (.iastore, 1) := by decide +kernel
theorem dX10_layCouples_154 : decode (am_code 131) 154 = .ok (.aload_n 0, 1) := by decide +kernel
theorem dX10_layCouples_155 : decode (am_code 131) 155 = .ok (.getfield 83, 3) := by decide +kernel
theorem dX10_layCouples_158 : decode (am_code 131) 158 = .ok (.iload 4, 2) := by decide +kernel
theorem dX10_layCouples_160 : decode (am_code 131) 160 = .ok (.iload_n 2, 1) := by decide +kernel
theorem dX10_layCouples_161 : decode (am_code 131) 161 = .ok (.iastore, 1) := by decide +kernel
theorem dX10_layCouples_162 : decode (am_code 131) 162 = .ok (.iinc 4 1, 3) := by decide +kernel
theorem dX10_layCouples_165 : decode (am_code 131) 165 = .ok (.goto (-108), 3) := by decide +kernel
theorem dX10_layCouples_168 : decode (am_code 131) 168 = .ok (.iload_n 1, 1) := by decide +kernel
theorem dX10_layCouples_169 : decode (am_code 131) 169 = .ok (.aload_n 0, 1) := by decide +kernel
theorem dX10_layCouples_170 : decode (am_code 131) 170 = .ok (.getfield 22, 3) := by decide +kernel
theorem dX10_layCouples_173 : decode (am_code 131) 173 = .ok (.iload_n 2, 1) := by decide +kernel
theorem dX10_layCouples_174 : decode (am_code 131) 174 = .ok (.iaload, 1) := by decide +kernel
theorem dX10_layCouples_175 : decode (am_code 131) 175 = .ok (.ifCond .ne 24, 3) := by decide +kernel
theorem dX10_layCouples_178 : decode (am_code 131) 178 = .ok (.aload_n 0, 1) := by decide +kernel
theorem dX10_layCouples_179 : decode (am_code 131) 179 = .ok (.getfield 83, 3) := by decide +kernel
theorem dX10_layCouples_182 : decode (am_code 131) 182 = .ok (.iload_n 2, 1) := by decide +kernel
theorem dX10_layCouples_183 : decode (am_code 131) 183 = .ok (.iaload, 1) := by decide +kernel
theorem dX10_layCouples_184 : decode (am_code 131) 184 = .ok (.iconst (-1), 1) := by decide +kernel
theorem dX10_layCouples_185 : decode (am_code 131) 185 = .ok (.if_icmp .eq 14, 3) := by decide +kernel
theorem dX10_layCouples_188 : decode (am_code 131) 188 = .ok (.iconst 1, 1) := by decide +kernel
theorem dX10_layCouples_189 : decode (am_code 131) 189 = .ok (.aload_n 0, 1) := by decide +kernel
theorem dX10_layCouples_190 : decode (am_code 131) 190 = .ok (.getfield 83, 3) := by decide +kernel
theorem dX10_layCouples_193 : decode (am_code 131) 193 = .ok (.iload_n 2, 1) := by decide +kernel
theorem dX10_layCouples_194 : decode (am_code 131) 194 = .ok (.iaload, 1) := by decide +kernel
theorem dX10_layCouples_195 : decode (am_code 131) 195 = .ok (.ishl, 1) := by decide +kernel
theorem dX10_layCouples_196 : decode (am_code 131) 196 = .ok (.goto 4, 3) := by decide +kernel
theorem dX10_layCouples_199 : decode (am_code 131) 199 = .ok (.iconst 0, 1) := by decide +kernel
theorem dX10_layCouples_200 : decode (am_code 131) 200 = .ok (.ior, 1) := by decide +kernel
theorem dX10_layCouples_201 : decode (am_code 131) 201 = .ok (.istore_n 1, 1) := by decide +kernel
theorem dX10_layCouples_202 : decode (am_code 131) 202 = .ok (.iinc 2 1, 3) := by decide +kernel
theorem dX10_layCouples_205 : decode (am_code 131) 205 = .ok (.goto (-172), 3) := by decide +kernel
theorem dX10_layCouples_208 : decode (am_code 131) 208 = .ok (.aload_n 0, 1) := by decide +kernel
theorem dX10_layCouples_209 : decode (am_code 131) 209 = .ok (.getfield 80, 3) := by decide +kernel
theorem dX10_layCouples_212 : decode (am_code 131) 212 = .ok (.iconst 0, 1) := by decide +kernel
theorem dX10_layCouples_213 : decode (am_code 131) 213 = .ok (.iaload, 1) := by decide +kernel
theorem dX10_layCouples_214 : decode (am_code 131) 214 = .ok (.ireturn, 1) := by decide +kernel
theorem r131_0 (d : Nat) (st : List Value) (σ : am_St) (τ : Int64) (x : Nat) (v1 v2 v3 v4 v5 : Value) : am_run d 131 0 [.ref x, v1, v2, v3, v4, v5] st σ τ = am_run d 131 1 [.ref x, v1, v2, v3, v4, v5] (.ref x :: st) σ τ := rr_aload_n dX10_layCouples_0 rfl
theorem r131_1 (d : Nat) (ls st : List Value) (σ : am_St) (τ : Int64) (k : Nat)  (hk : am_kc k = 10) (hc : am_cats st ≤ 8) : am_run (d + 1) 131 1 ls (.ref k :: st) σ τ = (am_call d 101 [.ref k] σ τ).bind (fun r => am_run (d + 1) 131 4 ls (r.1.toList ++ st) r.2.1 r.2.2) := rr_invv [] dX10_layCouples_1 (by decide +kernel) (by decide) rfl (Nat.le_of_ble_eq_true rfl) hk hc
theorem r131_4 (d : Nat) (st : List Value) (σ : am_St) (τ : Int64) (x : Nat) (v1 v2 v3 v4 v5 : Value) : am_run d 131 4 [.ref x, v1, v2, v3, v4, v5] st σ τ = am_run d 131 5 [.ref x, v1, v2, v3, v4, v5] (.ref x :: st) σ τ := rr_aload_n dX10_layCouples_4 rfl
theorem r131_5 (d : Nat) (ls st : List Value) (σ : am_St) (τ : Int64) (k : Nat)  (hk : am_kc k = 10) (hc : am_cats st ≤ 8) : am_run (d + 1) 131 5 ls (.ref k :: st) σ τ = (am_call d 130 [.ref k] σ τ).bind (fun r => am_run (d + 1) 131 8 ls (r.1.toList ++ st) r.2.1 r.2.2) := rr_invv [] dX10_layCouples_5 (by decide +kernel) (by decide) rfl (Nat.le_of_ble_eq_true rfl) hk hc
theorem r131_8 (d : Nat) (ls st : List Value) (σ : am_St) (τ : Int64) : am_run d 131 8 ls st σ τ = am_run d 131 9 ls (.int 0 :: st) σ τ := rr_iconst 0 dX10_layCouples_8 (by decide)
theorem r131_9 (d : Nat) (st : List Value) (σ : am_St) (τ : Int64) (x : Int32) (v0 v1 v2 v3 v4 v5 : Value) : am_run d 131 9 [v0, v1, v2, v3, v4, v5] (.int x :: st) σ τ = am_run d 131 10 [am_nl v0, .int x, v2, v3, v4, v5] st σ τ := rr_istore_n _ dX10_layCouples_9 (by decide) (by first | rfl | (by_cases h : v0.category = 2 <;> simp [am_set1, am_nl, h]))
theorem r131_10 (d : Nat) (st : List Value) (σ : am_St) (τ : Int64) (x : Int32) (v0 v2 v3 v4 v5 : Value) : am_run d 131 10 [v0, .int x, v2, v3, v4, v5] st σ τ = am_run d 131 11 [v0, .int x, v2, v3, v4, v5] (.int x :: st) σ τ := rr_iload_n dX10_layCouples_10 rfl
theorem r131_11 (d : Nat) (ls st : List Value) (σ : am_St) (τ : Int64) : am_run d 131 11 ls st σ τ = am_run d 131 13 ls (.int 12 :: st) σ τ := rr_bipush 12 dX10_layCouples_11 (by decide)
theorem r131_13 (d : Nat) (ls st : List Value) (σ : am_St) (τ : Int64) (x y : Int32) : am_run d 131 13 ls (.int y :: .int x :: st) σ τ = if y ≤ x then am_run d 131 29 ls st σ τ else am_run d 131 16 ls st σ τ := (rr_icmp 29 dX10_layCouples_13 (by decide)).trans am_sel
theorem r131_16 (d : Nat) (st : List Value) (σ : am_St) (τ : Int64) (x : Nat) (v1 v2 v3 v4 v5 : Value) : am_run d 131 16 [.ref x, v1, v2, v3, v4, v5] st σ τ = am_run d 131 17 [.ref x, v1, v2, v3, v4, v5] (.ref x :: st) σ τ := rr_aload_n dX10_layCouples_16 rfl
theorem r131_17 (d : Nat) (ls st : List Value) (σ : am_St) (τ : Int64) (k : Nat) : am_run d 131 17 ls (.ref k :: st) σ τ = am_gf k 10 30 σ τ (fun v => am_run d 131 20 ls (v :: st) σ τ) := rr_getf dX10_layCouples_17 (by decide +kernel)
theorem r131_20 (d : Nat) (st : List Value) (σ : am_St) (τ : Int64) (x : Int32) (v0 v2 v3 v4 v5 : Value) : am_run d 131 20 [v0, .int x, v2, v3, v4, v5] st σ τ = am_run d 131 21 [v0, .int x, v2, v3, v4, v5] (.int x :: st) σ τ := rr_iload_n dX10_layCouples_20 rfl
theorem r131_21 (d : Nat) (ls st : List Value) (σ : am_St) (τ : Int64) : am_run d 131 21 ls st σ τ = am_run d 131 22 ls (.int (-1) :: st) σ τ := rr_iconst (-1) dX10_layCouples_21 (by decide)
theorem r131_22 (d : Nat) (ls st : List Value) (σ : am_St) (τ : Int64) (x i : Int32) (k : Nat) : am_run d 131 22 ls (.int x :: .int i :: .ref k :: st) σ τ = am_ai false k i (fun j => am_run d 131 23 ls st (am_up σ k j x) τ) := rr_iast dX10_layCouples_22
theorem r131_23 (d : Nat) (st : List Value) (σ : am_St) (τ : Int64) (x : Int32) (v0 v2 v3 v4 v5 : Value) : am_run d 131 23 [v0, .int x, v2, v3, v4, v5] st σ τ = am_run d 131 26 [am_nl v0, .int (x + 1), v2, v3, v4, v5] st σ τ := rr_iinc 1 _ dX10_layCouples_23 rfl (by decide) (by decide) (by first | rfl | (by_cases h : v0.category = 2 <;> simp [am_set1, am_nl, h]))
theorem r131_26 (d : Nat) (ls st : List Value) (σ : am_St) (τ : Int64) : am_run d 131 26 ls st σ τ = am_run d 131 10 ls st σ τ := rr_goto 10 dX10_layCouples_26 (by decide)
theorem r131_29 (d : Nat) (ls st : List Value) (σ : am_St) (τ : Int64) : am_run d 131 29 ls st σ τ = am_run d 131 30 ls (.int 0 :: st) σ τ := rr_iconst 0 dX10_layCouples_29 (by decide)
theorem r131_30 (d : Nat) (st : List Value) (σ : am_St) (τ : Int64) (x : Int32) (v0 v1 v2 v3 v4 v5 : Value) : am_run d 131 30 [v0, v1, v2, v3, v4, v5] (.int x :: st) σ τ = am_run d 131 31 [am_nl v0, .int x, v2, v3, v4, v5] st σ τ := rr_istore_n _ dX10_layCouples_30 (by decide) (by first | rfl | (by_cases h : v0.category = 2 <;> simp [am_set1, am_nl, h]))
theorem r131_31 (d : Nat) (ls st : List Value) (σ : am_St) (τ : Int64) : am_run d 131 31 ls st σ τ = am_run d 131 32 ls (.int 0 :: st) σ τ := rr_iconst 0 dX10_layCouples_31 (by decide)
theorem r131_32 (d : Nat) (st : List Value) (σ : am_St) (τ : Int64) (x : Int32) (v0 v1 v2 v3 v4 v5 : Value) : am_run d 131 32 [v0, v1, v2, v3, v4, v5] (.int x :: st) σ τ = am_run d 131 33 [v0, am_nl v1, .int x, v3, v4, v5] st σ τ := rr_istore_n _ dX10_layCouples_32 (by decide) (by first | rfl | (by_cases h : v1.category = 2 <;> simp [am_set1, am_nl, h]))
theorem r131_33 (d : Nat) (st : List Value) (σ : am_St) (τ : Int64) (x : Int32) (v0 v1 v3 v4 v5 : Value) : am_run d 131 33 [v0, v1, .int x, v3, v4, v5] st σ τ = am_run d 131 34 [v0, v1, .int x, v3, v4, v5] (.int x :: st) σ τ := rr_iload_n dX10_layCouples_33 rfl
theorem r131_34 (d : Nat) (st : List Value) (σ : am_St) (τ : Int64) (x : Nat) (v1 v2 v3 v4 v5 : Value) : am_run d 131 34 [.ref x, v1, v2, v3, v4, v5] st σ τ = am_run d 131 35 [.ref x, v1, v2, v3, v4, v5] (.ref x :: st) σ τ := rr_aload_n dX10_layCouples_34 rfl
theorem r131_35 (d : Nat) (ls st : List Value) (σ : am_St) (τ : Int64) (k : Nat) : am_run d 131 35 ls (.ref k :: st) σ τ = am_gf k 10 6 σ τ (fun v => am_run d 131 38 ls (v :: st) σ τ) := rr_getf dX10_layCouples_35 (by decide +kernel)
theorem r131_38 (d : Nat) (ls st : List Value) (σ : am_St) (τ : Int64) (x y : Int32) : am_run d 131 38 ls (.int y :: .int x :: st) σ τ = if y ≤ x then am_run d 131 208 ls st σ τ else am_run d 131 41 ls st σ τ := (rr_icmp 208 dX10_layCouples_38 (by decide)).trans am_sel
theorem r131_41 (d : Nat) (st : List Value) (σ : am_St) (τ : Int64) (x : Nat) (v1 v2 v3 v4 v5 : Value) : am_run d 131 41 [.ref x, v1, v2, v3, v4, v5] st σ τ = am_run d 131 42 [.ref x, v1, v2, v3, v4, v5] (.ref x :: st) σ τ := rr_aload_n dX10_layCouples_41 rfl
theorem r131_42 (d : Nat) (ls st : List Value) (σ : am_St) (τ : Int64) (k : Nat) : am_run d 131 42 ls (.ref k :: st) σ τ = am_gf k 10 29 σ τ (fun v => am_run d 131 45 ls (v :: st) σ τ) := rr_getf dX10_layCouples_42 (by decide +kernel)
theorem r131_45 (d : Nat) (ls st : List Value) (σ : am_St) (τ : Int64) : am_run d 131 45 ls st σ τ = am_run d 131 48 ls (.int 4096 :: st) σ τ := rr_sipush 4096 dX10_layCouples_45 (by decide)
theorem r131_48 (d : Nat) (st : List Value) (σ : am_St) (τ : Int64) (x : Int32) (v0 v1 v3 v4 v5 : Value) : am_run d 131 48 [v0, v1, .int x, v3, v4, v5] st σ τ = am_run d 131 49 [v0, v1, .int x, v3, v4, v5] (.int x :: st) σ τ := rr_iload_n dX10_layCouples_48 rfl
theorem r131_49 (d : Nat) (ls st : List Value) (σ : am_St) (τ : Int64) (x y : Int32) : am_run d 131 49 ls (.int y :: .int x :: st) σ τ = am_run d 131 50 ls (.int (x * y) :: st) σ τ := rr_imul dX10_layCouples_49
theorem r131_50 (d : Nat) (st : List Value) (σ : am_St) (τ : Int64) (x : Int32) (v0 v2 v3 v4 v5 : Value) : am_run d 131 50 [v0, .int x, v2, v3, v4, v5] st σ τ = am_run d 131 51 [v0, .int x, v2, v3, v4, v5] (.int x :: st) σ τ := rr_iload_n dX10_layCouples_50 rfl
theorem r131_51 (d : Nat) (ls st : List Value) (σ : am_St) (τ : Int64) (x y : Int32) : am_run d 131 51 ls (.int y :: .int x :: st) σ τ = am_run d 131 52 ls (.int (x + y) :: st) σ τ := rr_iadd dX10_layCouples_51
theorem r131_52 (d : Nat) (ls st : List Value) (σ : am_St) (τ : Int64) (i : Int32) (k : Nat) : am_run d 131 52 ls (.int i :: .ref k :: st) σ τ = am_ai false k i (fun j => am_run d 131 53 ls (.int (σ k j) :: st) σ τ) := rr_iald dX10_layCouples_52
theorem r131_53 (d : Nat) (st : List Value) (σ : am_St) (τ : Int64) (x : Int32) (v0 v1 v2 v3 v4 v5 : Value) : am_run d 131 53 [v0, v1, v2, v3, v4, v5] (.int x :: st) σ τ = am_run d 131 54 [v0, v1, am_nl v2, .int x, v4, v5] st σ τ := rr_istore_n _ dX10_layCouples_53 (by decide) (by first | rfl | (by_cases h : v2.category = 2 <;> simp [am_set1, am_nl, h]))
theorem r131_54 (d : Nat) (ls st : List Value) (σ : am_St) (τ : Int64) : am_run d 131 54 ls st σ τ = am_run d 131 55 ls (.int 0 :: st) σ τ := rr_iconst 0 dX10_layCouples_54 (by decide)
theorem r131_55 (d : Nat) (st : List Value) (σ : am_St) (τ : Int64) (x : Int32) (v0 v1 v2 v3 v4 v5 : Value) : am_run d 131 55 [v0, v1, v2, v3, v4, v5] (.int x :: st) σ τ = am_run d 131 57 [v0, v1, v2, am_nl v3, .int x, v5] st σ τ := rr_istore _ dX10_layCouples_55 (by decide) (by first | rfl | (by_cases h : v3.category = 2 <;> simp [am_set1, am_nl, h]))
theorem r131_57 (d : Nat) (st : List Value) (σ : am_St) (τ : Int64) (x : Int32) (v0 v1 v2 v3 v5 : Value) : am_run d 131 57 [v0, v1, v2, v3, .int x, v5] st σ τ = am_run d 131 59 [v0, v1, v2, v3, .int x, v5] (.int x :: st) σ τ := rr_iload dX10_layCouples_57 rfl
theorem r131_59 (d : Nat) (st : List Value) (σ : am_St) (τ : Int64) (x : Nat) (v1 v2 v3 v4 v5 : Value) : am_run d 131 59 [.ref x, v1, v2, v3, v4, v5] st σ τ = am_run d 131 60 [.ref x, v1, v2, v3, v4, v5] (.ref x :: st) σ τ := rr_aload_n dX10_layCouples_59 rfl
theorem r131_60 (d : Nat) (ls st : List Value) (σ : am_St) (τ : Int64) (k : Nat) : am_run d 131 60 ls (.ref k :: st) σ τ = am_gf k 10 6 σ τ (fun v => am_run d 131 63 ls (v :: st) σ τ) := rr_getf dX10_layCouples_60 (by decide +kernel)
theorem r131_63 (d : Nat) (ls st : List Value) (σ : am_St) (τ : Int64) (x y : Int32) : am_run d 131 63 ls (.int y :: .int x :: st) σ τ = if y ≤ x then am_run d 131 168 ls st σ τ else am_run d 131 66 ls st σ τ := (rr_icmp 168 dX10_layCouples_63 (by decide)).trans am_sel
theorem r131_66 (d : Nat) (st : List Value) (σ : am_St) (τ : Int64) (x : Nat) (v1 v2 v3 v4 v5 : Value) : am_run d 131 66 [.ref x, v1, v2, v3, v4, v5] st σ τ = am_run d 131 67 [.ref x, v1, v2, v3, v4, v5] (.ref x :: st) σ τ := rr_aload_n dX10_layCouples_66 rfl
theorem r131_67 (d : Nat) (ls st : List Value) (σ : am_St) (τ : Int64) (k : Nat) : am_run d 131 67 ls (.ref k :: st) σ τ = am_gf k 10 30 σ τ (fun v => am_run d 131 70 ls (v :: st) σ τ) := rr_getf dX10_layCouples_67 (by decide +kernel)
theorem r131_70 (d : Nat) (st : List Value) (σ : am_St) (τ : Int64) (x : Int32) (v0 v1 v3 v4 v5 : Value) : am_run d 131 70 [v0, v1, .int x, v3, v4, v5] st σ τ = am_run d 131 71 [v0, v1, .int x, v3, v4, v5] (.int x :: st) σ τ := rr_iload_n dX10_layCouples_70 rfl
theorem r131_71 (d : Nat) (ls st : List Value) (σ : am_St) (τ : Int64) (i : Int32) (k : Nat) : am_run d 131 71 ls (.int i :: .ref k :: st) σ τ = am_ai false k i (fun j => am_run d 131 72 ls (.int (σ k j) :: st) σ τ) := rr_iald dX10_layCouples_71
theorem r131_72 (d : Nat) (ls st : List Value) (σ : am_St) (τ : Int64) : am_run d 131 72 ls st σ τ = am_run d 131 73 ls (.int (-1) :: st) σ τ := rr_iconst (-1) dX10_layCouples_72 (by decide)
theorem r131_73 (d : Nat) (ls st : List Value) (σ : am_St) (τ : Int64) (x y : Int32) : am_run d 131 73 ls (.int y :: .int x :: st) σ τ = if x = y then am_run d 131 76 ls st σ τ else am_run d 131 168 ls st σ τ := (rr_icmp 168 dX10_layCouples_73 (by decide)).trans am_seln
theorem r131_76 (d : Nat) (st : List Value) (σ : am_St) (τ : Int64) (x : Nat) (v1 v2 v3 v4 v5 : Value) : am_run d 131 76 [.ref x, v1, v2, v3, v4, v5] st σ τ = am_run d 131 77 [.ref x, v1, v2, v3, v4, v5] (.ref x :: st) σ τ := rr_aload_n dX10_layCouples_76 rfl
theorem r131_77 (d : Nat) (ls st : List Value) (σ : am_St) (τ : Int64) (k : Nat) : am_run d 131 77 ls (.ref k :: st) σ τ = am_gf k 10 9 σ τ (fun v => am_run d 131 80 ls (v :: st) σ τ) := rr_getf dX10_layCouples_77 (by decide +kernel)
theorem r131_80 (d : Nat) (st : List Value) (σ : am_St) (τ : Int64) (x : Int32) (v0 v1 v3 v4 v5 : Value) : am_run d 131 80 [v0, v1, .int x, v3, v4, v5] st σ τ = am_run d 131 81 [v0, v1, .int x, v3, v4, v5] (.int x :: st) σ τ := rr_iload_n dX10_layCouples_80 rfl
theorem r131_81 (d : Nat) (ls st : List Value) (σ : am_St) (τ : Int64) (i : Int32) (k : Nat) : am_run d 131 81 ls (.int i :: .ref k :: st) σ τ = am_ai false k i (fun j => am_run d 131 82 ls (.int (σ k j) :: st) σ τ) := rr_iald dX10_layCouples_81
theorem r131_82 (d : Nat) (ls st : List Value) (σ : am_St) (τ : Int64) (x : Int32) : am_run d 131 82 ls (.int x :: st) σ τ = if x = 0 then am_run d 131 85 ls st σ τ else am_run d 131 168 ls st σ τ := (rr_if 168 dX10_layCouples_82 (by decide)).trans am_seln
theorem r131_85 (d : Nat) (st : List Value) (σ : am_St) (τ : Int64) (x : Nat) (v1 v2 v3 v4 v5 : Value) : am_run d 131 85 [.ref x, v1, v2, v3, v4, v5] st σ τ = am_run d 131 86 [.ref x, v1, v2, v3, v4, v5] (.ref x :: st) σ τ := rr_aload_n dX10_layCouples_85 rfl
theorem r131_86 (d : Nat) (ls st : List Value) (σ : am_St) (τ : Int64) (k : Nat) : am_run d 131 86 ls (.ref k :: st) σ τ = am_gf k 10 31 σ τ (fun v => am_run d 131 89 ls (v :: st) σ τ) := rr_getf dX10_layCouples_86 (by decide +kernel)
theorem r131_89 (d : Nat) (st : List Value) (σ : am_St) (τ : Int64) (x : Int32) (v0 v1 v3 v4 v5 : Value) : am_run d 131 89 [v0, v1, .int x, v3, v4, v5] st σ τ = am_run d 131 90 [v0, v1, .int x, v3, v4, v5] (.int x :: st) σ τ := rr_iload_n dX10_layCouples_89 rfl
theorem r131_90 (d : Nat) (ls st : List Value) (σ : am_St) (τ : Int64) (i : Int32) (k : Nat) : am_run d 131 90 ls (.int i :: .ref k :: st) σ τ = am_ai false k i (fun j => am_run d 131 91 ls (.int (σ k j) :: st) σ τ) := rr_iald dX10_layCouples_90
theorem r131_91 (d : Nat) (st : List Value) (σ : am_St) (τ : Int64) (x : Int32) (v0 v1 v2 v3 v5 : Value) : am_run d 131 91 [v0, v1, v2, v3, .int x, v5] st σ τ = am_run d 131 93 [v0, v1, v2, v3, .int x, v5] (.int x :: st) σ τ := rr_iload dX10_layCouples_91 rfl
theorem r131_93 (d : Nat) (ls st : List Value) (σ : am_St) (τ : Int64) (x y : Int32) : am_run d 131 93 ls (.int y :: .int x :: st) σ τ = am_run d 131 94 ls (.int (x >>> (y &&& 31)) :: st) σ τ := rr_ishr dX10_layCouples_93
theorem r131_94 (d : Nat) (ls st : List Value) (σ : am_St) (τ : Int64) : am_run d 131 94 ls st σ τ = am_run d 131 95 ls (.int 1 :: st) σ τ := rr_iconst 1 dX10_layCouples_94 (by decide)
theorem r131_95 (d : Nat) (ls st : List Value) (σ : am_St) (τ : Int64) (x y : Int32) : am_run d 131 95 ls (.int y :: .int x :: st) σ τ = am_run d 131 96 ls (.int (x &&& y) :: st) σ τ := rr_iand dX10_layCouples_95
theorem r131_96 (d : Nat) (ls st : List Value) (σ : am_St) (τ : Int64) : am_run d 131 96 ls st σ τ = am_run d 131 97 ls (.int 1 :: st) σ τ := rr_iconst 1 dX10_layCouples_96 (by decide)
theorem r131_97 (d : Nat) (ls st : List Value) (σ : am_St) (τ : Int64) (x y : Int32) : am_run d 131 97 ls (.int y :: .int x :: st) σ τ = if x = y then am_run d 131 100 ls st σ τ else am_run d 131 113 ls st σ τ := (rr_icmp 113 dX10_layCouples_97 (by decide)).trans am_seln
theorem r131_100 (d : Nat) (st : List Value) (σ : am_St) (τ : Int64) (x : Int32) (v0 v2 v3 v4 v5 : Value) : am_run d 131 100 [v0, .int x, v2, v3, v4, v5] st σ τ = am_run d 131 101 [v0, .int x, v2, v3, v4, v5] (.int x :: st) σ τ := rr_iload_n dX10_layCouples_100 rfl
theorem r131_101 (d : Nat) (st : List Value) (σ : am_St) (τ : Int64) (x : Int32) (v0 v1 v2 v3 v5 : Value) : am_run d 131 101 [v0, v1, v2, v3, .int x, v5] st σ τ = am_run d 131 103 [v0, v1, v2, v3, .int x, v5] (.int x :: st) σ τ := rr_iload dX10_layCouples_101 rfl
theorem r131_103 (d : Nat) (ls st : List Value) (σ : am_St) (τ : Int64) (x y : Int32) : am_run d 131 103 ls (.int y :: .int x :: st) σ τ = am_run d 131 104 ls (.int (x >>> (y &&& 31)) :: st) σ τ := rr_ishr dX10_layCouples_103
theorem r131_104 (d : Nat) (ls st : List Value) (σ : am_St) (τ : Int64) : am_run d 131 104 ls st σ τ = am_run d 131 105 ls (.int 1 :: st) σ τ := rr_iconst 1 dX10_layCouples_104 (by decide)
theorem r131_105 (d : Nat) (ls st : List Value) (σ : am_St) (τ : Int64) (x y : Int32) : am_run d 131 105 ls (.int y :: .int x :: st) σ τ = am_run d 131 106 ls (.int (x &&& y) :: st) σ τ := rr_iand dX10_layCouples_105
theorem r131_106 (d : Nat) (ls st : List Value) (σ : am_St) (τ : Int64) (x : Int32) : am_run d 131 106 ls (.int x :: st) σ τ = if x = 0 then am_run d 131 109 ls st σ τ else am_run d 131 113 ls st σ τ := (rr_if 113 dX10_layCouples_106 (by decide)).trans am_seln
theorem r131_109 (d : Nat) (ls st : List Value) (σ : am_St) (τ : Int64) : am_run d 131 109 ls st σ τ = am_run d 131 110 ls (.int 1 :: st) σ τ := rr_iconst 1 dX10_layCouples_109 (by decide)
theorem r131_110 (d : Nat) (ls st : List Value) (σ : am_St) (τ : Int64) : am_run d 131 110 ls st σ τ = am_run d 131 114 ls st σ τ := rr_goto 114 dX10_layCouples_110 (by decide)
theorem r131_113 (d : Nat) (ls st : List Value) (σ : am_St) (τ : Int64) : am_run d 131 113 ls st σ τ = am_run d 131 114 ls (.int 0 :: st) σ τ := rr_iconst 0 dX10_layCouples_113 (by decide)
theorem r131_114 (d : Nat) (st : List Value) (σ : am_St) (τ : Int64) (x : Int32) (v0 v1 v2 v3 v4 v5 : Value) : am_run d 131 114 [v0, v1, v2, v3, v4, v5] (.int x :: st) σ τ = am_run d 131 116 [v0, v1, v2, v3, am_nl v4, .int x] st σ τ := rr_istore _ dX10_layCouples_114 (by decide) (by first | rfl | (by_cases h : v4.category = 2 <;> simp [am_set1, am_nl, h]))
theorem r131_116 (d : Nat) (st : List Value) (σ : am_St) (τ : Int64) (x : Int32) (v0 v1 v2 v3 v4 : Value) : am_run d 131 116 [v0, v1, v2, v3, v4, .int x] st σ τ = am_run d 131 118 [v0, v1, v2, v3, v4, .int x] (.int x :: st) σ τ := rr_iload dX10_layCouples_116 rfl
theorem r131_118 (d : Nat) (ls st : List Value) (σ : am_St) (τ : Int64) (x : Int32) : am_run d 131 118 ls (.int x :: st) σ τ = if x = 0 then am_run d 131 162 ls st σ τ else am_run d 131 121 ls st σ τ := (rr_if 162 dX10_layCouples_118 (by decide)).trans am_sel
theorem r131_121 (d : Nat) (ls st : List Value) (σ : am_St) (τ : Int64) : am_run d 131 121 ls st σ τ = am_run d 131 122 ls (.int 1 :: st) σ τ := rr_iconst 1 dX10_layCouples_121 (by decide)
theorem r131_122 (d : Nat) (st : List Value) (σ : am_St) (τ : Int64) (x : Nat) (v1 v2 v3 v4 v5 : Value) : am_run d 131 122 [.ref x, v1, v2, v3, v4, v5] st σ τ = am_run d 131 123 [.ref x, v1, v2, v3, v4, v5] (.ref x :: st) σ τ := rr_aload_n dX10_layCouples_122 rfl
theorem r131_123 (d : Nat) (ls st : List Value) (σ : am_St) (τ : Int64) (k : Nat) : am_run d 131 123 ls (.ref k :: st) σ τ = am_gf k 10 29 σ τ (fun v => am_run d 131 126 ls (v :: st) σ τ) := rr_getf dX10_layCouples_123 (by decide +kernel)
theorem r131_126 (d : Nat) (ls st : List Value) (σ : am_St) (τ : Int64) : am_run d 131 126 ls st σ τ = am_run d 131 129 ls (.int 4096 :: st) σ τ := rr_sipush 4096 dX10_layCouples_126 (by decide)
theorem r131_129 (d : Nat) (st : List Value) (σ : am_St) (τ : Int64) (x : Int32) (v0 v1 v3 v4 v5 : Value) : am_run d 131 129 [v0, v1, .int x, v3, v4, v5] st σ τ = am_run d 131 130 [v0, v1, .int x, v3, v4, v5] (.int x :: st) σ τ := rr_iload_n dX10_layCouples_129 rfl
theorem r131_130 (d : Nat) (ls st : List Value) (σ : am_St) (τ : Int64) : am_run d 131 130 ls st σ τ = am_run d 131 131 ls (.int 1 :: st) σ τ := rr_iconst 1 dX10_layCouples_130 (by decide)
theorem r131_131 (d : Nat) (ls st : List Value) (σ : am_St) (τ : Int64) (x y : Int32) : am_run d 131 131 ls (.int y :: .int x :: st) σ τ = am_run d 131 132 ls (.int (x + y) :: st) σ τ := rr_iadd dX10_layCouples_131
theorem r131_132 (d : Nat) (ls st : List Value) (σ : am_St) (τ : Int64) (x y : Int32) : am_run d 131 132 ls (.int y :: .int x :: st) σ τ = am_run d 131 133 ls (.int (x * y) :: st) σ τ := rr_imul dX10_layCouples_132
theorem r131_133 (d : Nat) (st : List Value) (σ : am_St) (τ : Int64) (x : Int32) (v0 v2 v3 v4 v5 : Value) : am_run d 131 133 [v0, .int x, v2, v3, v4, v5] st σ τ = am_run d 131 134 [v0, .int x, v2, v3, v4, v5] (.int x :: st) σ τ := rr_iload_n dX10_layCouples_133 rfl
theorem r131_134 (d : Nat) (ls st : List Value) (σ : am_St) (τ : Int64) : am_run d 131 134 ls st σ τ = am_run d 131 135 ls (.int 1 :: st) σ τ := rr_iconst 1 dX10_layCouples_134 (by decide)
theorem r131_135 (d : Nat) (st : List Value) (σ : am_St) (τ : Int64) (x : Int32) (v0 v1 v2 v3 v5 : Value) : am_run d 131 135 [v0, v1, v2, v3, .int x, v5] st σ τ = am_run d 131 137 [v0, v1, v2, v3, .int x, v5] (.int x :: st) σ τ := rr_iload dX10_layCouples_135 rfl
theorem r131_137 (d : Nat) (ls st : List Value) (σ : am_St) (τ : Int64) (x y : Int32) : am_run d 131 137 ls (.int y :: .int x :: st) σ τ = am_run d 131 138 ls (.int (x <<< (y &&& 31)) :: st) σ τ := rr_ishl dX10_layCouples_137
theorem r131_138 (d : Nat) (ls st : List Value) (σ : am_St) (τ : Int64) (x y : Int32) : am_run d 131 138 ls (.int y :: .int x :: st) σ τ = am_run d 131 139 ls (.int (x ||| y) :: st) σ τ := rr_ior dX10_layCouples_138
theorem r131_139 (d : Nat) (ls st : List Value) (σ : am_St) (τ : Int64) (x y : Int32) : am_run d 131 139 ls (.int y :: .int x :: st) σ τ = am_run d 131 140 ls (.int (x + y) :: st) σ τ := rr_iadd dX10_layCouples_139
theorem r131_140 (d : Nat) (ls st : List Value) (σ : am_St) (τ : Int64) (i : Int32) (k : Nat) : am_run d 131 140 ls (.int i :: .ref k :: st) σ τ = am_ai false k i (fun j => am_run d 131 141 ls (.int (σ k j) :: st) σ τ) := rr_iald dX10_layCouples_140
theorem r131_141 (d : Nat) (ls st : List Value) (σ : am_St) (τ : Int64) (x y : Int32) : am_run d 131 141 ls (.int y :: .int x :: st) σ τ = am_run d 131 142 ls (.int (x + y) :: st) σ τ := rr_iadd dX10_layCouples_141
theorem r131_142 (d : Nat) (st : List Value) (σ : am_St) (τ : Int64) (x : Int32) (v0 v1 v2 v4 v5 : Value) : am_run d 131 142 [v0, v1, v2, .int x, v4, v5] st σ τ = am_run d 131 143 [v0, v1, v2, .int x, v4, v5] (.int x :: st) σ τ := rr_iload_n dX10_layCouples_142 rfl
theorem r131_143 (d : Nat) (ls st : List Value) (σ : am_St) (τ : Int64) (x y : Int32) : am_run d 131 143 ls (.int y :: .int x :: st) σ τ = if x = y then am_run d 131 146 ls st σ τ else am_run d 131 162 ls st σ τ := (rr_icmp 162 dX10_layCouples_143 (by decide)).trans am_seln
theorem r131_146 (d : Nat) (st : List Value) (σ : am_St) (τ : Int64) (x : Nat) (v1 v2 v3 v4 v5 : Value) : am_run d 131 146 [.ref x, v1, v2, v3, v4, v5] st σ τ = am_run d 131 147 [.ref x, v1, v2, v3, v4, v5] (.ref x :: st) σ τ := rr_aload_n dX10_layCouples_146 rfl
theorem r131_147 (d : Nat) (ls st : List Value) (σ : am_St) (τ : Int64) (k : Nat) : am_run d 131 147 ls (.ref k :: st) σ τ = am_gf k 10 30 σ τ (fun v => am_run d 131 150 ls (v :: st) σ τ) := rr_getf dX10_layCouples_147 (by decide +kernel)
theorem r131_150 (d : Nat) (st : List Value) (σ : am_St) (τ : Int64) (x : Int32) (v0 v1 v3 v4 v5 : Value) : am_run d 131 150 [v0, v1, .int x, v3, v4, v5] st σ τ = am_run d 131 151 [v0, v1, .int x, v3, v4, v5] (.int x :: st) σ τ := rr_iload_n dX10_layCouples_150 rfl
theorem r131_151 (d : Nat) (st : List Value) (σ : am_St) (τ : Int64) (x : Int32) (v0 v1 v2 v3 v5 : Value) : am_run d 131 151 [v0, v1, v2, v3, .int x, v5] st σ τ = am_run d 131 153 [v0, v1, v2, v3, .int x, v5] (.int x :: st) σ τ := rr_iload dX10_layCouples_151 rfl
theorem r131_153 (d : Nat) (ls st : List Value) (σ : am_St) (τ : Int64) (x i : Int32) (k : Nat) : am_run d 131 153 ls (.int x :: .int i :: .ref k :: st) σ τ = am_ai false k i (fun j => am_run d 131 154 ls st (am_up σ k j x) τ) := rr_iast dX10_layCouples_153
theorem r131_154 (d : Nat) (st : List Value) (σ : am_St) (τ : Int64) (x : Nat) (v1 v2 v3 v4 v5 : Value) : am_run d 131 154 [.ref x, v1, v2, v3, v4, v5] st σ τ = am_run d 131 155 [.ref x, v1, v2, v3, v4, v5] (.ref x :: st) σ τ := rr_aload_n dX10_layCouples_154 rfl
theorem r131_155 (d : Nat) (ls st : List Value) (σ : am_St) (τ : Int64) (k : Nat) : am_run d 131 155 ls (.ref k :: st) σ τ = am_gf k 10 30 σ τ (fun v => am_run d 131 158 ls (v :: st) σ τ) := rr_getf dX10_layCouples_155 (by decide +kernel)
theorem r131_158 (d : Nat) (st : List Value) (σ : am_St) (τ : Int64) (x : Int32) (v0 v1 v2 v3 v5 : Value) : am_run d 131 158 [v0, v1, v2, v3, .int x, v5] st σ τ = am_run d 131 160 [v0, v1, v2, v3, .int x, v5] (.int x :: st) σ τ := rr_iload dX10_layCouples_158 rfl
theorem r131_160 (d : Nat) (st : List Value) (σ : am_St) (τ : Int64) (x : Int32) (v0 v1 v3 v4 v5 : Value) : am_run d 131 160 [v0, v1, .int x, v3, v4, v5] st σ τ = am_run d 131 161 [v0, v1, .int x, v3, v4, v5] (.int x :: st) σ τ := rr_iload_n dX10_layCouples_160 rfl
theorem r131_161 (d : Nat) (ls st : List Value) (σ : am_St) (τ : Int64) (x i : Int32) (k : Nat) : am_run d 131 161 ls (.int x :: .int i :: .ref k :: st) σ τ = am_ai false k i (fun j => am_run d 131 162 ls st (am_up σ k j x) τ) := rr_iast dX10_layCouples_161
theorem r131_162 (d : Nat) (st : List Value) (σ : am_St) (τ : Int64) (x : Int32) (v0 v1 v2 v3 v5 : Value) : am_run d 131 162 [v0, v1, v2, v3, .int x, v5] st σ τ = am_run d 131 165 [v0, v1, v2, am_nl v3, .int (x + 1), v5] st σ τ := rr_iinc 1 _ dX10_layCouples_162 rfl (by decide) (by decide) (by first | rfl | (by_cases h : v3.category = 2 <;> simp [am_set1, am_nl, h]))
theorem r131_165 (d : Nat) (ls st : List Value) (σ : am_St) (τ : Int64) : am_run d 131 165 ls st σ τ = am_run d 131 57 ls st σ τ := rr_goto 57 dX10_layCouples_165 (by decide)
theorem r131_168 (d : Nat) (st : List Value) (σ : am_St) (τ : Int64) (x : Int32) (v0 v2 v3 v4 v5 : Value) : am_run d 131 168 [v0, .int x, v2, v3, v4, v5] st σ τ = am_run d 131 169 [v0, .int x, v2, v3, v4, v5] (.int x :: st) σ τ := rr_iload_n dX10_layCouples_168 rfl
theorem r131_169 (d : Nat) (st : List Value) (σ : am_St) (τ : Int64) (x : Nat) (v1 v2 v3 v4 v5 : Value) : am_run d 131 169 [.ref x, v1, v2, v3, v4, v5] st σ τ = am_run d 131 170 [.ref x, v1, v2, v3, v4, v5] (.ref x :: st) σ τ := rr_aload_n dX10_layCouples_169 rfl
theorem r131_170 (d : Nat) (ls st : List Value) (σ : am_St) (τ : Int64) (k : Nat) : am_run d 131 170 ls (.ref k :: st) σ τ = am_gf k 10 9 σ τ (fun v => am_run d 131 173 ls (v :: st) σ τ) := rr_getf dX10_layCouples_170 (by decide +kernel)
theorem r131_173 (d : Nat) (st : List Value) (σ : am_St) (τ : Int64) (x : Int32) (v0 v1 v3 v4 v5 : Value) : am_run d 131 173 [v0, v1, .int x, v3, v4, v5] st σ τ = am_run d 131 174 [v0, v1, .int x, v3, v4, v5] (.int x :: st) σ τ := rr_iload_n dX10_layCouples_173 rfl
theorem r131_174 (d : Nat) (ls st : List Value) (σ : am_St) (τ : Int64) (i : Int32) (k : Nat) : am_run d 131 174 ls (.int i :: .ref k :: st) σ τ = am_ai false k i (fun j => am_run d 131 175 ls (.int (σ k j) :: st) σ τ) := rr_iald dX10_layCouples_174
theorem r131_175 (d : Nat) (ls st : List Value) (σ : am_St) (τ : Int64) (x : Int32) : am_run d 131 175 ls (.int x :: st) σ τ = if x = 0 then am_run d 131 178 ls st σ τ else am_run d 131 199 ls st σ τ := (rr_if 199 dX10_layCouples_175 (by decide)).trans am_seln
theorem r131_178 (d : Nat) (st : List Value) (σ : am_St) (τ : Int64) (x : Nat) (v1 v2 v3 v4 v5 : Value) : am_run d 131 178 [.ref x, v1, v2, v3, v4, v5] st σ τ = am_run d 131 179 [.ref x, v1, v2, v3, v4, v5] (.ref x :: st) σ τ := rr_aload_n dX10_layCouples_178 rfl
theorem r131_179 (d : Nat) (ls st : List Value) (σ : am_St) (τ : Int64) (k : Nat) : am_run d 131 179 ls (.ref k :: st) σ τ = am_gf k 10 30 σ τ (fun v => am_run d 131 182 ls (v :: st) σ τ) := rr_getf dX10_layCouples_179 (by decide +kernel)
theorem r131_182 (d : Nat) (st : List Value) (σ : am_St) (τ : Int64) (x : Int32) (v0 v1 v3 v4 v5 : Value) : am_run d 131 182 [v0, v1, .int x, v3, v4, v5] st σ τ = am_run d 131 183 [v0, v1, .int x, v3, v4, v5] (.int x :: st) σ τ := rr_iload_n dX10_layCouples_182 rfl
theorem r131_183 (d : Nat) (ls st : List Value) (σ : am_St) (τ : Int64) (i : Int32) (k : Nat) : am_run d 131 183 ls (.int i :: .ref k :: st) σ τ = am_ai false k i (fun j => am_run d 131 184 ls (.int (σ k j) :: st) σ τ) := rr_iald dX10_layCouples_183
theorem r131_184 (d : Nat) (ls st : List Value) (σ : am_St) (τ : Int64) : am_run d 131 184 ls st σ τ = am_run d 131 185 ls (.int (-1) :: st) σ τ := rr_iconst (-1) dX10_layCouples_184 (by decide)
theorem r131_185 (d : Nat) (ls st : List Value) (σ : am_St) (τ : Int64) (x y : Int32) : am_run d 131 185 ls (.int y :: .int x :: st) σ τ = if x = y then am_run d 131 199 ls st σ τ else am_run d 131 188 ls st σ τ := (rr_icmp 199 dX10_layCouples_185 (by decide)).trans am_sel
theorem r131_188 (d : Nat) (ls st : List Value) (σ : am_St) (τ : Int64) : am_run d 131 188 ls st σ τ = am_run d 131 189 ls (.int 1 :: st) σ τ := rr_iconst 1 dX10_layCouples_188 (by decide)
theorem r131_189 (d : Nat) (st : List Value) (σ : am_St) (τ : Int64) (x : Nat) (v1 v2 v3 v4 v5 : Value) : am_run d 131 189 [.ref x, v1, v2, v3, v4, v5] st σ τ = am_run d 131 190 [.ref x, v1, v2, v3, v4, v5] (.ref x :: st) σ τ := rr_aload_n dX10_layCouples_189 rfl
theorem r131_190 (d : Nat) (ls st : List Value) (σ : am_St) (τ : Int64) (k : Nat) : am_run d 131 190 ls (.ref k :: st) σ τ = am_gf k 10 30 σ τ (fun v => am_run d 131 193 ls (v :: st) σ τ) := rr_getf dX10_layCouples_190 (by decide +kernel)
theorem r131_193 (d : Nat) (st : List Value) (σ : am_St) (τ : Int64) (x : Int32) (v0 v1 v3 v4 v5 : Value) : am_run d 131 193 [v0, v1, .int x, v3, v4, v5] st σ τ = am_run d 131 194 [v0, v1, .int x, v3, v4, v5] (.int x :: st) σ τ := rr_iload_n dX10_layCouples_193 rfl
theorem r131_194 (d : Nat) (ls st : List Value) (σ : am_St) (τ : Int64) (i : Int32) (k : Nat) : am_run d 131 194 ls (.int i :: .ref k :: st) σ τ = am_ai false k i (fun j => am_run d 131 195 ls (.int (σ k j) :: st) σ τ) := rr_iald dX10_layCouples_194
theorem r131_195 (d : Nat) (ls st : List Value) (σ : am_St) (τ : Int64) (x y : Int32) : am_run d 131 195 ls (.int y :: .int x :: st) σ τ = am_run d 131 196 ls (.int (x <<< (y &&& 31)) :: st) σ τ := rr_ishl dX10_layCouples_195
theorem r131_196 (d : Nat) (ls st : List Value) (σ : am_St) (τ : Int64) : am_run d 131 196 ls st σ τ = am_run d 131 200 ls st σ τ := rr_goto 200 dX10_layCouples_196 (by decide)
theorem r131_199 (d : Nat) (ls st : List Value) (σ : am_St) (τ : Int64) : am_run d 131 199 ls st σ τ = am_run d 131 200 ls (.int 0 :: st) σ τ := rr_iconst 0 dX10_layCouples_199 (by decide)
theorem r131_200 (d : Nat) (ls st : List Value) (σ : am_St) (τ : Int64) (x y : Int32) : am_run d 131 200 ls (.int y :: .int x :: st) σ τ = am_run d 131 201 ls (.int (x ||| y) :: st) σ τ := rr_ior dX10_layCouples_200
theorem r131_201 (d : Nat) (st : List Value) (σ : am_St) (τ : Int64) (x : Int32) (v0 v1 v2 v3 v4 v5 : Value) : am_run d 131 201 [v0, v1, v2, v3, v4, v5] (.int x :: st) σ τ = am_run d 131 202 [am_nl v0, .int x, v2, v3, v4, v5] st σ τ := rr_istore_n _ dX10_layCouples_201 (by decide) (by first | rfl | (by_cases h : v0.category = 2 <;> simp [am_set1, am_nl, h]))
theorem r131_202 (d : Nat) (st : List Value) (σ : am_St) (τ : Int64) (x : Int32) (v0 v1 v3 v4 v5 : Value) : am_run d 131 202 [v0, v1, .int x, v3, v4, v5] st σ τ = am_run d 131 205 [v0, am_nl v1, .int (x + 1), v3, v4, v5] st σ τ := rr_iinc 1 _ dX10_layCouples_202 rfl (by decide) (by decide) (by first | rfl | (by_cases h : v1.category = 2 <;> simp [am_set1, am_nl, h]))
theorem r131_205 (d : Nat) (ls st : List Value) (σ : am_St) (τ : Int64) : am_run d 131 205 ls st σ τ = am_run d 131 33 ls st σ τ := rr_goto 33 dX10_layCouples_205 (by decide)
theorem r131_208 (d : Nat) (st : List Value) (σ : am_St) (τ : Int64) (x : Nat) (v1 v2 v3 v4 v5 : Value) : am_run d 131 208 [.ref x, v1, v2, v3, v4, v5] st σ τ = am_run d 131 209 [.ref x, v1, v2, v3, v4, v5] (.ref x :: st) σ τ := rr_aload_n dX10_layCouples_208 rfl
theorem r131_209 (d : Nat) (ls st : List Value) (σ : am_St) (τ : Int64) (k : Nat) : am_run d 131 209 ls (.ref k :: st) σ τ = am_gf k 10 29 σ τ (fun v => am_run d 131 212 ls (v :: st) σ τ) := rr_getf dX10_layCouples_209 (by decide +kernel)
theorem r131_212 (d : Nat) (ls st : List Value) (σ : am_St) (τ : Int64) : am_run d 131 212 ls st σ τ = am_run d 131 213 ls (.int 0 :: st) σ τ := rr_iconst 0 dX10_layCouples_212 (by decide)
theorem r131_213 (d : Nat) (ls st : List Value) (σ : am_St) (τ : Int64) (i : Int32) (k : Nat) : am_run d 131 213 ls (.int i :: .ref k :: st) σ τ = am_ai false k i (fun j => am_run d 131 214 ls (.int (σ k j) :: st) σ τ) := rr_iald dX10_layCouples_213
theorem r131_214 (d : Nat) (ls : List Value) (σ : am_St) (τ : Int64) (x : Int32) : am_run d 131 214 ls [.int x] σ τ = some (some (.int x), σ, τ) := rr_iret dX10_layCouples_214 rfl
theorem dX10_couples_0 : decode (am_code 132) 0 = .ok (.iload_n 1, 1) := by decide +kernel
theorem dX10_couples_1 : decode (am_code 132) 1 = .ok (.ifCond .eq 20, 3) := by decide +kernel
theorem dX10_couples_4 : decode (am_code 132) 4 = .ok (.iload_n 1, 1) := by decide +kernel
theorem dX10_couples_5 : decode (am_code 132) 5 = .ok (.i2l, 1) := by decide +kernel
theorem dX10_couples_6 : decode (am_code 132) 6 = .ok (.ldc2_w 227, 3) := by decide +kernel
theorem dX10_couples_9 : decode (am_code 132) 9 = .ok (.ldc2_w 229, 3) := by decide +kernel
theorem dX10_couples_12 : decode (am_code 132) 12 = .ok (.invokestatic 112, 3) := by decide +kernel
theorem dX10_couples_15 : decode (am_code 132) 15 = .ok (.ifCond .ne 6, 3) := by decide +kernel
theorem dX10_couples_18 : decode (am_code 132) 18 = .ok (.bipush (-102), 2) := by decide +kernel
theorem dX10_couples_20 : decode (am_code 132) 20 = .ok (.ireturn, 1) := by decide +kernel
theorem dX10_couples_21 : decode (am_code 132) 21 = .ok (.aload_n 0, 1) := by decide +kernel
theorem dX10_couples_22 : decode (am_code 132) 22 = .ok (.invokevirtual 231, 3) := by decide +kernel
theorem dX10_couples_25 : decode (am_code 132) 25 = .ok (.istore_n 2, 1) := by decide +kernel
theorem dX10_couples_26 : decode (am_code 132) 26 = .ok (.iload_n 1, 1) := by decide +kernel
theorem dX10_couples_27 : decode (am_code 132) 27 = .ok (.ifCond .ne 7, 3) := by decide +kernel
theorem dX10_couples_30 : decode (am_code 132) 30 = .ok (.iload_n 2, 1) := by decide +kernel
theorem dX10_couples_31 : decode (am_code 132) 31 = .ok (.goto 12, 3) := by decide +kernel
theorem dX10_couples_34 : decode (am_code 132) 34 = .ok (.aload_n 0, 1) := by decide +kernel
theorem dX10_couples_35 : decode (am_code 132) 35 = .ok (.getfield 83, 3) := by decide +kernel
theorem dX10_couples_38 : decode (am_code 132) 38 = .ok (.iload_n 1, 1) := by decide +kernel
theorem dX10_couples_39 : decode (am_code 132) 39 = .ok (.bipush 10, 2) := by decide +kernel
theorem dX10_couples_41 : decode (am_code 132) 41 = .ok (.isub, 1) := by decide +kernel
theorem dX10_couples_42 : decode (am_code 132) 42 = .ok (.iaload, 1) := by decide +kernel
theorem dX10_couples_43 : decode (am_code 132) 43 = .ok (.ireturn, 1) := by decide +kernel
theorem r132_0 (d : Nat) (st : List Value) (σ : am_St) (τ : Int64) (x : Int32) (v0 v2 : Value) : am_run d 132 0 [v0, .int x, v2] st σ τ = am_run d 132 1 [v0, .int x, v2] (.int x :: st) σ τ := rr_iload_n dX10_couples_0 rfl
theorem r132_1 (d : Nat) (ls st : List Value) (σ : am_St) (τ : Int64) (x : Int32) : am_run d 132 1 ls (.int x :: st) σ τ = if x = 0 then am_run d 132 21 ls st σ τ else am_run d 132 4 ls st σ τ := (rr_if 21 dX10_couples_1 (by decide)).trans am_sel
theorem r132_4 (d : Nat) (st : List Value) (σ : am_St) (τ : Int64) (x : Int32) (v0 v2 : Value) : am_run d 132 4 [v0, .int x, v2] st σ τ = am_run d 132 5 [v0, .int x, v2] (.int x :: st) σ τ := rr_iload_n dX10_couples_4 rfl
theorem r132_5 (d : Nat) (ls st : List Value) (σ : am_St) (τ : Int64) (x : Int32) : am_run d 132 5 ls (.int x :: st) σ τ = am_run d 132 6 ls (.long x.toInt64 :: st) σ τ := rr_i2l dX10_couples_5
theorem r132_6 (d : Nat) (ls st : List Value) (σ : am_St) (τ : Int64) : am_run d 132 6 ls st σ τ = am_run d 132 9 ls (.long 10 :: st) σ τ := rr_ldc2 10 dX10_couples_6 (by decide +kernel)
theorem r132_9 (d : Nat) (ls st : List Value) (σ : am_St) (τ : Int64) : am_run d 132 9 ls st σ τ = am_run d 132 12 ls (.long 21 :: st) σ τ := rr_ldc2 21 dX10_couples_9 (by decide +kernel)
theorem r132_12 (d : Nat) (ls st : List Value) (σ : am_St) (τ : Int64) (a0 : Int64) (a1 : Int64) (a2 : Int64) (hc : am_cats st ≤ 8) : am_run (d + 1) 132 12 ls (.long a2 :: .long a1 :: .long a0 :: st) σ τ = (am_call d 82 [.long a0, .long a1, .long a2] σ τ).bind (fun r => am_run (d + 1) 132 15 ls (r.1.toList ++ st) r.2.1 r.2.2) := rr_invs [.long a0, .long a1, .long a2] dX10_couples_12 (by decide +kernel) (by decide +kernel) (by decide) rfl (Nat.le_of_ble_eq_true rfl) hc
theorem r132_15 (d : Nat) (ls st : List Value) (σ : am_St) (τ : Int64) (x : Int32) : am_run d 132 15 ls (.int x :: st) σ τ = if x = 0 then am_run d 132 18 ls st σ τ else am_run d 132 21 ls st σ τ := (rr_if 21 dX10_couples_15 (by decide)).trans am_seln
theorem r132_18 (d : Nat) (ls st : List Value) (σ : am_St) (τ : Int64) : am_run d 132 18 ls st σ τ = am_run d 132 20 ls (.int (-102) :: st) σ τ := rr_bipush (-102) dX10_couples_18 (by decide)
theorem r132_20 (d : Nat) (ls : List Value) (σ : am_St) (τ : Int64) (x : Int32) : am_run d 132 20 ls [.int x] σ τ = some (some (.int x), σ, τ) := rr_iret dX10_couples_20 rfl
theorem r132_21 (d : Nat) (st : List Value) (σ : am_St) (τ : Int64) (x : Nat) (v1 v2 : Value) : am_run d 132 21 [.ref x, v1, v2] st σ τ = am_run d 132 22 [.ref x, v1, v2] (.ref x :: st) σ τ := rr_aload_n dX10_couples_21 rfl
theorem r132_22 (d : Nat) (ls st : List Value) (σ : am_St) (τ : Int64) (k : Nat)  (hk : am_kc k = 10) (hc : am_cats st ≤ 8) : am_run (d + 1) 132 22 ls (.ref k :: st) σ τ = (am_call d 131 [.ref k] σ τ).bind (fun r => am_run (d + 1) 132 25 ls (r.1.toList ++ st) r.2.1 r.2.2) := rr_invv [] dX10_couples_22 (by decide +kernel) (by decide) rfl (Nat.le_of_ble_eq_true rfl) hk hc
theorem r132_25 (d : Nat) (st : List Value) (σ : am_St) (τ : Int64) (x : Int32) (v0 v1 v2 : Value) : am_run d 132 25 [v0, v1, v2] (.int x :: st) σ τ = am_run d 132 26 [v0, am_nl v1, .int x] st σ τ := rr_istore_n _ dX10_couples_25 (by decide) (by first | rfl | (by_cases h : v1.category = 2 <;> simp [am_set1, am_nl, h]))
theorem r132_26 (d : Nat) (st : List Value) (σ : am_St) (τ : Int64) (x : Int32) (v0 v2 : Value) : am_run d 132 26 [v0, .int x, v2] st σ τ = am_run d 132 27 [v0, .int x, v2] (.int x :: st) σ τ := rr_iload_n dX10_couples_26 rfl
theorem r132_27 (d : Nat) (ls st : List Value) (σ : am_St) (τ : Int64) (x : Int32) : am_run d 132 27 ls (.int x :: st) σ τ = if x = 0 then am_run d 132 30 ls st σ τ else am_run d 132 34 ls st σ τ := (rr_if 34 dX10_couples_27 (by decide)).trans am_seln
theorem r132_30 (d : Nat) (st : List Value) (σ : am_St) (τ : Int64) (x : Int32) (v0 v1 : Value) : am_run d 132 30 [v0, v1, .int x] st σ τ = am_run d 132 31 [v0, v1, .int x] (.int x :: st) σ τ := rr_iload_n dX10_couples_30 rfl
theorem r132_31 (d : Nat) (ls st : List Value) (σ : am_St) (τ : Int64) : am_run d 132 31 ls st σ τ = am_run d 132 43 ls st σ τ := rr_goto 43 dX10_couples_31 (by decide)
theorem r132_34 (d : Nat) (st : List Value) (σ : am_St) (τ : Int64) (x : Nat) (v1 v2 : Value) : am_run d 132 34 [.ref x, v1, v2] st σ τ = am_run d 132 35 [.ref x, v1, v2] (.ref x :: st) σ τ := rr_aload_n dX10_couples_34 rfl
theorem r132_35 (d : Nat) (ls st : List Value) (σ : am_St) (τ : Int64) (k : Nat) : am_run d 132 35 ls (.ref k :: st) σ τ = am_gf k 10 30 σ τ (fun v => am_run d 132 38 ls (v :: st) σ τ) := rr_getf dX10_couples_35 (by decide +kernel)
theorem r132_38 (d : Nat) (st : List Value) (σ : am_St) (τ : Int64) (x : Int32) (v0 v2 : Value) : am_run d 132 38 [v0, .int x, v2] st σ τ = am_run d 132 39 [v0, .int x, v2] (.int x :: st) σ τ := rr_iload_n dX10_couples_38 rfl
theorem r132_39 (d : Nat) (ls st : List Value) (σ : am_St) (τ : Int64) : am_run d 132 39 ls st σ τ = am_run d 132 41 ls (.int 10 :: st) σ τ := rr_bipush 10 dX10_couples_39 (by decide)
theorem r132_41 (d : Nat) (ls st : List Value) (σ : am_St) (τ : Int64) (x y : Int32) : am_run d 132 41 ls (.int y :: .int x :: st) σ τ = am_run d 132 42 ls (.int (x - y) :: st) σ τ := rr_isub dX10_couples_41
theorem r132_42 (d : Nat) (ls st : List Value) (σ : am_St) (τ : Int64) (i : Int32) (k : Nat) : am_run d 132 42 ls (.int i :: .ref k :: st) σ τ = am_ai false k i (fun j => am_run d 132 43 ls (.int (σ k j) :: st) σ τ) := rr_iald dX10_couples_42
theorem r132_43 (d : Nat) (ls : List Value) (σ : am_St) (τ : Int64) (x : Int32) : am_run d 132 43 ls [.int x] σ τ = some (some (.int x), σ, τ) := rr_iret dX10_couples_43 rfl
theorem dX10_lastsOf_0 : decode (am_code 133) 0 = .ok (.aload_n 0, 1) := by decide +kernel
theorem dX10_lastsOf_1 : decode (am_code 133) 1 = .ok (.invokevirtual 168, 3) := by decide +kernel
theorem dX10_lastsOf_4 : decode (am_code 133) 4 = .ok (.iconst 0, 1) := by decide +kernel
theorem dX10_lastsOf_5 : decode (am_code 133) 5 = .ok (.istore_n 2, 1) := by decide +kernel
theorem dX10_lastsOf_6 : decode (am_code 133) 6 = .ok (.iconst 0, 1) := by decide +kernel
theorem dX10_lastsOf_7 : decode (am_code 133) 7 = .ok (.istore_n 3, 1) := by decide +kernel
theorem dX10_lastsOf_8 : decode (am_code 133) 8 = .ok (.iload_n 3, 1) := by decide +kernel
theorem dX10_lastsOf_9 : decode (am_code 133) 9 = .ok (.aload_n 0, 1) := by decide +kernel
theorem dX10_lastsOf_10 : decode (am_code 133) 10 = .ok (.getfield 129, 3) := by decide +kernel
theorem dX10_lastsOf_13 : decode (am_code 133) 13 = .ok (.if_icmp .ge 33, 3) := by decide +kernel
theorem dX10_lastsOf_16 : decode (am_code 133) 16 = .ok (.iload_n 2, 1) := by decide +kernel
theorem dX10_lastsOf_17 : decode (am_code 133) 17 = .ok (.aload_n 0, 1) := by decide +kernel
theorem dX10_lastsOf_18 : decode (am_code 133) 18 = .ok (.getfield 43, 3) := by decide +kernel
theorem dX10_lastsOf_21 : decode (am_code 133) 21 = .ok (.iload_n 3, 1) := by decide +kernel
theorem dX10_lastsOf_22 : decode (am_code 133) 22 = .ok (.iaload, 1) := by decide +kernel
theorem dX10_lastsOf_23 : decode (am_code 133) 23 = .ok (.iload_n 1, 1) := by decide +kernel
theorem dX10_lastsOf_24 : decode (am_code 133) 24 = .ok (.if_icmp .ne 13, 3) := by decide +kernel
theorem dX10_lastsOf_27 : decode (am_code 133) 27 = .ok (.iconst 1, 1) := by decide +kernel
theorem dX10_lastsOf_28 : decode (am_code 133) 28 = .ok (.aload_n 0, 1) := by decide +kernel
theorem dX10_lastsOf_29 : decode (am_code 133) 29 = .ok (.iload_n 3, 1) := by decide +kernel
theorem dX10_lastsOf_30 : decode (am_code 133) 30 = .ok (.invokevirtual 171, 3) := by decide +kernel
theorem dX10_lastsOf_33 : decode (am_code 133) 33 = .ok (.ishl, 1) := by decide +kernel
theorem dX10_lastsOf_34 : decode (am_code 133) 34 = .ok (.goto 4, 3) := by decide +kernel
theorem dX10_lastsOf_37 : decode (am_code 133) 37 = .ok (.iconst 0, 1) := by decide +kernel
theorem dX10_lastsOf_38 : decode (am_code 133) 38 = .ok (.ior, 1) := by decide +kernel
theorem dX10_lastsOf_39 : decode (am_code 133) 39 = .ok (.istore_n 2, 1) := by decide +kernel
theorem dX10_lastsOf_40 : decode (am_code 133) 40 = .ok (.iinc 3 1, 3) := by decide +kernel
theorem dX10_lastsOf_43 : decode (am_code 133) 43 = .ok (.goto (-35), 3) := by decide +kernel
theorem dX10_lastsOf_46 : decode (am_code 133) 46 = .ok (.iconst 0, 1) := by decide +kernel
theorem dX10_lastsOf_47 : decode (am_code 133) 47 = .ok (.istore_n 3, 1) := by decide +kernel
theorem dX10_lastsOf_48 : decode (am_code 133) 48 = .ok (.iconst 0, 1) := by decide +kernel
theorem dX10_lastsOf_49 : decode (am_code 133) 49 = .ok (.istore 4, 2) := by decide +kernel
theorem dX10_lastsOf_51 : decode (am_code 133) 51 = .ok (.iload 4, 2) := by decide +kernel
theorem dX10_lastsOf_53 : decode (am_code 133) 53 = .ok (.bipush 12, 2) := by decide +kernel
theorem dX10_lastsOf_55 : decode (am_code 133) 55 = .ok (.if_icmp .ge 18, 3) := by decide +kernel
theorem dX10_lastsOf_58 : decode (am_code 133) 58 = .ok (.iload_n 3, 1) := by decide +kernel
theorem dX10_lastsOf_59 : decode (am_code 133) 59 = .ok (.iload_n 2, 1) := by decide +kernel
theorem dX10_lastsOf_60 : decode (am_code 133) 60 = .ok (.iload 4, 2) := by decide +kernel
theorem dX10_lastsOf_62 : decode (am_code 133) 62 = .ok (.ishr, 1) := by decide +kernel
theorem dX10_lastsOf_63 : decode (am_code 133) 63 = .ok (.iconst 1, 1) := by decide +kernel
theorem dX10_lastsOf_64 : decode (am_code 133) 64 = .ok (.iand, 1) := by decide +kernel
theorem dX10_lastsOf_65 : decode (am_code 133) 65 = .ok (.iadd, 1) := by decide +kernel
theorem dX10_lastsOf_66 : decode (am_code 133) 66 = .ok (.istore_n 3, 1) := by decide +kernel
theorem dX10_lastsOf_67 : decode (am_code 133) 67 = .ok (.iinc 4 1, 3) := by decide +kernel
theorem dX10_lastsOf_70 : decode (am_code 133) 70 = .ok (.goto (-19), 3) := by decide +kernel
theorem dX10_lastsOf_73 : decode (am_code 133) 73 = .ok (.iload_n 3, 1) := by decide +kernel
theorem dX10_lastsOf_74 : decode (am_code 133) 74 = .ok (.ireturn, 1) := by decide +kernel
theorem r133_0 (d : Nat) (st : List Value) (σ : am_St) (τ : Int64) (x : Nat) (v1 v2 v3 v4 : Value) : am_run d 133 0 [.ref x, v1, v2, v3, v4] st σ τ = am_run d 133 1 [.ref x, v1, v2, v3, v4] (.ref x :: st) σ τ := rr_aload_n dX10_lastsOf_0 rfl
theorem r133_1 (d : Nat) (ls st : List Value) (σ : am_St) (τ : Int64) (k : Nat)  (hk : am_kc k = 10) (hc : am_cats st ≤ 8) : am_run (d + 1) 133 1 ls (.ref k :: st) σ τ = (am_call d 101 [.ref k] σ τ).bind (fun r => am_run (d + 1) 133 4 ls (r.1.toList ++ st) r.2.1 r.2.2) := rr_invv [] dX10_lastsOf_1 (by decide +kernel) (by decide) rfl (Nat.le_of_ble_eq_true rfl) hk hc
theorem r133_4 (d : Nat) (ls st : List Value) (σ : am_St) (τ : Int64) : am_run d 133 4 ls st σ τ = am_run d 133 5 ls (.int 0 :: st) σ τ := rr_iconst 0 dX10_lastsOf_4 (by decide)
theorem r133_5 (d : Nat) (st : List Value) (σ : am_St) (τ : Int64) (x : Int32) (v0 v1 v2 v3 v4 : Value) : am_run d 133 5 [v0, v1, v2, v3, v4] (.int x :: st) σ τ = am_run d 133 6 [v0, am_nl v1, .int x, v3, v4] st σ τ := rr_istore_n _ dX10_lastsOf_5 (by decide) (by first | rfl | (by_cases h : v1.category = 2 <;> simp [am_set1, am_nl, h]))
theorem r133_6 (d : Nat) (ls st : List Value) (σ : am_St) (τ : Int64) : am_run d 133 6 ls st σ τ = am_run d 133 7 ls (.int 0 :: st) σ τ := rr_iconst 0 dX10_lastsOf_6 (by decide)
theorem r133_7 (d : Nat) (st : List Value) (σ : am_St) (τ : Int64) (x : Int32) (v0 v1 v2 v3 v4 : Value) : am_run d 133 7 [v0, v1, v2, v3, v4] (.int x :: st) σ τ = am_run d 133 8 [v0, v1, am_nl v2, .int x, v4] st σ τ := rr_istore_n _ dX10_lastsOf_7 (by decide) (by first | rfl | (by_cases h : v2.category = 2 <;> simp [am_set1, am_nl, h]))
theorem r133_8 (d : Nat) (st : List Value) (σ : am_St) (τ : Int64) (x : Int32) (v0 v1 v2 v4 : Value) : am_run d 133 8 [v0, v1, v2, .int x, v4] st σ τ = am_run d 133 9 [v0, v1, v2, .int x, v4] (.int x :: st) σ τ := rr_iload_n dX10_lastsOf_8 rfl
theorem r133_9 (d : Nat) (st : List Value) (σ : am_St) (τ : Int64) (x : Nat) (v1 v2 v3 v4 : Value) : am_run d 133 9 [.ref x, v1, v2, v3, v4] st σ τ = am_run d 133 10 [.ref x, v1, v2, v3, v4] (.ref x :: st) σ τ := rr_aload_n dX10_lastsOf_9 rfl
theorem r133_10 (d : Nat) (ls st : List Value) (σ : am_St) (τ : Int64) (k : Nat) : am_run d 133 10 ls (.ref k :: st) σ τ = am_gf k 10 6 σ τ (fun v => am_run d 133 13 ls (v :: st) σ τ) := rr_getf dX10_lastsOf_10 (by decide +kernel)
theorem r133_13 (d : Nat) (ls st : List Value) (σ : am_St) (τ : Int64) (x y : Int32) : am_run d 133 13 ls (.int y :: .int x :: st) σ τ = if y ≤ x then am_run d 133 46 ls st σ τ else am_run d 133 16 ls st σ τ := (rr_icmp 46 dX10_lastsOf_13 (by decide)).trans am_sel
theorem r133_16 (d : Nat) (st : List Value) (σ : am_St) (τ : Int64) (x : Int32) (v0 v1 v3 v4 : Value) : am_run d 133 16 [v0, v1, .int x, v3, v4] st σ τ = am_run d 133 17 [v0, v1, .int x, v3, v4] (.int x :: st) σ τ := rr_iload_n dX10_lastsOf_16 rfl
theorem r133_17 (d : Nat) (st : List Value) (σ : am_St) (τ : Int64) (x : Nat) (v1 v2 v3 v4 : Value) : am_run d 133 17 [.ref x, v1, v2, v3, v4] st σ τ = am_run d 133 18 [.ref x, v1, v2, v3, v4] (.ref x :: st) σ τ := rr_aload_n dX10_lastsOf_17 rfl
theorem r133_18 (d : Nat) (ls st : List Value) (σ : am_St) (τ : Int64) (k : Nat) : am_run d 133 18 ls (.ref k :: st) σ τ = am_gf k 10 16 σ τ (fun v => am_run d 133 21 ls (v :: st) σ τ) := rr_getf dX10_lastsOf_18 (by decide +kernel)
theorem r133_21 (d : Nat) (st : List Value) (σ : am_St) (τ : Int64) (x : Int32) (v0 v1 v2 v4 : Value) : am_run d 133 21 [v0, v1, v2, .int x, v4] st σ τ = am_run d 133 22 [v0, v1, v2, .int x, v4] (.int x :: st) σ τ := rr_iload_n dX10_lastsOf_21 rfl
theorem r133_22 (d : Nat) (ls st : List Value) (σ : am_St) (τ : Int64) (i : Int32) (k : Nat) : am_run d 133 22 ls (.int i :: .ref k :: st) σ τ = am_ai false k i (fun j => am_run d 133 23 ls (.int (σ k j) :: st) σ τ) := rr_iald dX10_lastsOf_22
theorem r133_23 (d : Nat) (st : List Value) (σ : am_St) (τ : Int64) (x : Int32) (v0 v2 v3 v4 : Value) : am_run d 133 23 [v0, .int x, v2, v3, v4] st σ τ = am_run d 133 24 [v0, .int x, v2, v3, v4] (.int x :: st) σ τ := rr_iload_n dX10_lastsOf_23 rfl
theorem r133_24 (d : Nat) (ls st : List Value) (σ : am_St) (τ : Int64) (x y : Int32) : am_run d 133 24 ls (.int y :: .int x :: st) σ τ = if x = y then am_run d 133 27 ls st σ τ else am_run d 133 37 ls st σ τ := (rr_icmp 37 dX10_lastsOf_24 (by decide)).trans am_seln
theorem r133_27 (d : Nat) (ls st : List Value) (σ : am_St) (τ : Int64) : am_run d 133 27 ls st σ τ = am_run d 133 28 ls (.int 1 :: st) σ τ := rr_iconst 1 dX10_lastsOf_27 (by decide)
theorem r133_28 (d : Nat) (st : List Value) (σ : am_St) (τ : Int64) (x : Nat) (v1 v2 v3 v4 : Value) : am_run d 133 28 [.ref x, v1, v2, v3, v4] st σ τ = am_run d 133 29 [.ref x, v1, v2, v3, v4] (.ref x :: st) σ τ := rr_aload_n dX10_lastsOf_28 rfl
theorem r133_29 (d : Nat) (st : List Value) (σ : am_St) (τ : Int64) (x : Int32) (v0 v1 v2 v4 : Value) : am_run d 133 29 [v0, v1, v2, .int x, v4] st σ τ = am_run d 133 30 [v0, v1, v2, .int x, v4] (.int x :: st) σ τ := rr_iload_n dX10_lastsOf_29 rfl
theorem r133_30 (d : Nat) (ls st : List Value) (σ : am_St) (τ : Int64) (k : Nat) (a0 : Int32) (hk : am_kc k = 10) (hc : am_cats st ≤ 8) : am_run (d + 1) 133 30 ls (.int a0 :: .ref k :: st) σ τ = (am_call d 103 [.ref k, .int a0] σ τ).bind (fun r => am_run (d + 1) 133 33 ls (r.1.toList ++ st) r.2.1 r.2.2) := rr_invv [.int a0] dX10_lastsOf_30 (by decide +kernel) (by decide) rfl (Nat.le_of_ble_eq_true rfl) hk hc
theorem r133_33 (d : Nat) (ls st : List Value) (σ : am_St) (τ : Int64) (x y : Int32) : am_run d 133 33 ls (.int y :: .int x :: st) σ τ = am_run d 133 34 ls (.int (x <<< (y &&& 31)) :: st) σ τ := rr_ishl dX10_lastsOf_33
theorem r133_34 (d : Nat) (ls st : List Value) (σ : am_St) (τ : Int64) : am_run d 133 34 ls st σ τ = am_run d 133 38 ls st σ τ := rr_goto 38 dX10_lastsOf_34 (by decide)
theorem r133_37 (d : Nat) (ls st : List Value) (σ : am_St) (τ : Int64) : am_run d 133 37 ls st σ τ = am_run d 133 38 ls (.int 0 :: st) σ τ := rr_iconst 0 dX10_lastsOf_37 (by decide)
theorem r133_38 (d : Nat) (ls st : List Value) (σ : am_St) (τ : Int64) (x y : Int32) : am_run d 133 38 ls (.int y :: .int x :: st) σ τ = am_run d 133 39 ls (.int (x ||| y) :: st) σ τ := rr_ior dX10_lastsOf_38
theorem r133_39 (d : Nat) (st : List Value) (σ : am_St) (τ : Int64) (x : Int32) (v0 v1 v2 v3 v4 : Value) : am_run d 133 39 [v0, v1, v2, v3, v4] (.int x :: st) σ τ = am_run d 133 40 [v0, am_nl v1, .int x, v3, v4] st σ τ := rr_istore_n _ dX10_lastsOf_39 (by decide) (by first | rfl | (by_cases h : v1.category = 2 <;> simp [am_set1, am_nl, h]))
theorem r133_40 (d : Nat) (st : List Value) (σ : am_St) (τ : Int64) (x : Int32) (v0 v1 v2 v4 : Value) : am_run d 133 40 [v0, v1, v2, .int x, v4] st σ τ = am_run d 133 43 [v0, v1, am_nl v2, .int (x + 1), v4] st σ τ := rr_iinc 1 _ dX10_lastsOf_40 rfl (by decide) (by decide) (by first | rfl | (by_cases h : v2.category = 2 <;> simp [am_set1, am_nl, h]))
theorem r133_43 (d : Nat) (ls st : List Value) (σ : am_St) (τ : Int64) : am_run d 133 43 ls st σ τ = am_run d 133 8 ls st σ τ := rr_goto 8 dX10_lastsOf_43 (by decide)
theorem r133_46 (d : Nat) (ls st : List Value) (σ : am_St) (τ : Int64) : am_run d 133 46 ls st σ τ = am_run d 133 47 ls (.int 0 :: st) σ τ := rr_iconst 0 dX10_lastsOf_46 (by decide)
theorem r133_47 (d : Nat) (st : List Value) (σ : am_St) (τ : Int64) (x : Int32) (v0 v1 v2 v3 v4 : Value) : am_run d 133 47 [v0, v1, v2, v3, v4] (.int x :: st) σ τ = am_run d 133 48 [v0, v1, am_nl v2, .int x, v4] st σ τ := rr_istore_n _ dX10_lastsOf_47 (by decide) (by first | rfl | (by_cases h : v2.category = 2 <;> simp [am_set1, am_nl, h]))
theorem r133_48 (d : Nat) (ls st : List Value) (σ : am_St) (τ : Int64) : am_run d 133 48 ls st σ τ = am_run d 133 49 ls (.int 0 :: st) σ τ := rr_iconst 0 dX10_lastsOf_48 (by decide)
theorem r133_49 (d : Nat) (st : List Value) (σ : am_St) (τ : Int64) (x : Int32) (v0 v1 v2 v3 v4 : Value) : am_run d 133 49 [v0, v1, v2, v3, v4] (.int x :: st) σ τ = am_run d 133 51 [v0, v1, v2, am_nl v3, .int x] st σ τ := rr_istore _ dX10_lastsOf_49 (by decide) (by first | rfl | (by_cases h : v3.category = 2 <;> simp [am_set1, am_nl, h]))
theorem r133_51 (d : Nat) (st : List Value) (σ : am_St) (τ : Int64) (x : Int32) (v0 v1 v2 v3 : Value) : am_run d 133 51 [v0, v1, v2, v3, .int x] st σ τ = am_run d 133 53 [v0, v1, v2, v3, .int x] (.int x :: st) σ τ := rr_iload dX10_lastsOf_51 rfl
theorem r133_53 (d : Nat) (ls st : List Value) (σ : am_St) (τ : Int64) : am_run d 133 53 ls st σ τ = am_run d 133 55 ls (.int 12 :: st) σ τ := rr_bipush 12 dX10_lastsOf_53 (by decide)
theorem r133_55 (d : Nat) (ls st : List Value) (σ : am_St) (τ : Int64) (x y : Int32) : am_run d 133 55 ls (.int y :: .int x :: st) σ τ = if y ≤ x then am_run d 133 73 ls st σ τ else am_run d 133 58 ls st σ τ := (rr_icmp 73 dX10_lastsOf_55 (by decide)).trans am_sel
theorem r133_58 (d : Nat) (st : List Value) (σ : am_St) (τ : Int64) (x : Int32) (v0 v1 v2 v4 : Value) : am_run d 133 58 [v0, v1, v2, .int x, v4] st σ τ = am_run d 133 59 [v0, v1, v2, .int x, v4] (.int x :: st) σ τ := rr_iload_n dX10_lastsOf_58 rfl
theorem r133_59 (d : Nat) (st : List Value) (σ : am_St) (τ : Int64) (x : Int32) (v0 v1 v3 v4 : Value) : am_run d 133 59 [v0, v1, .int x, v3, v4] st σ τ = am_run d 133 60 [v0, v1, .int x, v3, v4] (.int x :: st) σ τ := rr_iload_n dX10_lastsOf_59 rfl
theorem r133_60 (d : Nat) (st : List Value) (σ : am_St) (τ : Int64) (x : Int32) (v0 v1 v2 v3 : Value) : am_run d 133 60 [v0, v1, v2, v3, .int x] st σ τ = am_run d 133 62 [v0, v1, v2, v3, .int x] (.int x :: st) σ τ := rr_iload dX10_lastsOf_60 rfl
theorem r133_62 (d : Nat) (ls st : List Value) (σ : am_St) (τ : Int64) (x y : Int32) : am_run d 133 62 ls (.int y :: .int x :: st) σ τ = am_run d 133 63 ls (.int (x >>> (y &&& 31)) :: st) σ τ := rr_ishr dX10_lastsOf_62
theorem r133_63 (d : Nat) (ls st : List Value) (σ : am_St) (τ : Int64) : am_run d 133 63 ls st σ τ = am_run d 133 64 ls (.int 1 :: st) σ τ := rr_iconst 1 dX10_lastsOf_63 (by decide)
theorem r133_64 (d : Nat) (ls st : List Value) (σ : am_St) (τ : Int64) (x y : Int32) : am_run d 133 64 ls (.int y :: .int x :: st) σ τ = am_run d 133 65 ls (.int (x &&& y) :: st) σ τ := rr_iand dX10_lastsOf_64
theorem r133_65 (d : Nat) (ls st : List Value) (σ : am_St) (τ : Int64) (x y : Int32) : am_run d 133 65 ls (.int y :: .int x :: st) σ τ = am_run d 133 66 ls (.int (x + y) :: st) σ τ := rr_iadd dX10_lastsOf_65
theorem r133_66 (d : Nat) (st : List Value) (σ : am_St) (τ : Int64) (x : Int32) (v0 v1 v2 v3 v4 : Value) : am_run d 133 66 [v0, v1, v2, v3, v4] (.int x :: st) σ τ = am_run d 133 67 [v0, v1, am_nl v2, .int x, v4] st σ τ := rr_istore_n _ dX10_lastsOf_66 (by decide) (by first | rfl | (by_cases h : v2.category = 2 <;> simp [am_set1, am_nl, h]))
theorem r133_67 (d : Nat) (st : List Value) (σ : am_St) (τ : Int64) (x : Int32) (v0 v1 v2 v3 : Value) : am_run d 133 67 [v0, v1, v2, v3, .int x] st σ τ = am_run d 133 70 [v0, v1, v2, am_nl v3, .int (x + 1)] st σ τ := rr_iinc 1 _ dX10_lastsOf_67 rfl (by decide) (by decide) (by first | rfl | (by_cases h : v3.category = 2 <;> simp [am_set1, am_nl, h]))
theorem r133_70 (d : Nat) (ls st : List Value) (σ : am_St) (τ : Int64) : am_run d 133 70 ls st σ τ = am_run d 133 51 ls st σ τ := rr_goto 51 dX10_lastsOf_70 (by decide)
theorem r133_73 (d : Nat) (st : List Value) (σ : am_St) (τ : Int64) (x : Int32) (v0 v1 v2 v4 : Value) : am_run d 133 73 [v0, v1, v2, .int x, v4] st σ τ = am_run d 133 74 [v0, v1, v2, .int x, v4] (.int x :: st) σ τ := rr_iload_n dX10_lastsOf_73 rfl
theorem r133_74 (d : Nat) (ls : List Value) (σ : am_St) (τ : Int64) (x : Int32) : am_run d 133 74 ls [.int x] σ τ = some (some (.int x), σ, τ) := rr_iret dX10_lastsOf_74 rfl
theorem dX10_lasts_0 : decode (am_code 134) 0 = .ok (.iload_n 1, 1) := by decide +kernel
theorem dX10_lasts_1 : decode (am_code 134) 1 = .ok (.i2l, 1) := by decide +kernel
theorem dX10_lasts_2 : decode (am_code 134) 2 = .ok (.lconst 0, 1) := by decide +kernel
theorem dX10_lasts_3 : decode (am_code 134) 3 = .ok (.ldc2_w 147, 3) := by decide +kernel
theorem dX10_lasts_6 : decode (am_code 134) 6 = .ok (.invokestatic 112, 3) := by decide +kernel
theorem dX10_lasts_9 : decode (am_code 134) 9 = .ok (.ifCond .eq 11, 3) := by decide +kernel
theorem dX10_lasts_12 : decode (am_code 134) 12 = .ok (.aload_n 0, 1) := by decide +kernel
theorem dX10_lasts_13 : decode (am_code 134) 13 = .ok (.iload_n 1, 1) := by decide +kernel
theorem dX10_lasts_14 : decode (am_code 134) 14 = .ok (.invokevirtual 234, 3) := by decide +kernel
theorem dX10_lasts_17 : decode (am_code 134) 17 = .ok (.goto 5, 3) := by decide +kernel
theorem dX10_lasts_20 : decode (am_code 134) 20 = .ok (.bipush (-101), 2) := by decide +kernel
theorem dX10_lasts_22 : decode (am_code 134) 22 = .ok (.ireturn, 1) := by decide +kernel
theorem r134_0 (d : Nat) (st : List Value) (σ : am_St) (τ : Int64) (x : Int32) (v0 : Value) : am_run d 134 0 [v0, .int x] st σ τ = am_run d 134 1 [v0, .int x] (.int x :: st) σ τ := rr_iload_n dX10_lasts_0 rfl
theorem r134_1 (d : Nat) (ls st : List Value) (σ : am_St) (τ : Int64) (x : Int32) : am_run d 134 1 ls (.int x :: st) σ τ = am_run d 134 2 ls (.long x.toInt64 :: st) σ τ := rr_i2l dX10_lasts_1
theorem r134_2 (d : Nat) (ls st : List Value) (σ : am_St) (τ : Int64) : am_run d 134 2 ls st σ τ = am_run d 134 3 ls (.long 0 :: st) σ τ := rr_lconst 0 dX10_lasts_2 (by decide)
theorem r134_3 (d : Nat) (ls st : List Value) (σ : am_St) (τ : Int64) : am_run d 134 3 ls st σ τ = am_run d 134 6 ls (.long 5 :: st) σ τ := rr_ldc2 5 dX10_lasts_3 (by decide +kernel)
theorem r134_6 (d : Nat) (ls st : List Value) (σ : am_St) (τ : Int64) (a0 : Int64) (a1 : Int64) (a2 : Int64) (hc : am_cats st ≤ 8) : am_run (d + 1) 134 6 ls (.long a2 :: .long a1 :: .long a0 :: st) σ τ = (am_call d 82 [.long a0, .long a1, .long a2] σ τ).bind (fun r => am_run (d + 1) 134 9 ls (r.1.toList ++ st) r.2.1 r.2.2) := rr_invs [.long a0, .long a1, .long a2] dX10_lasts_6 (by decide +kernel) (by decide +kernel) (by decide) rfl (Nat.le_of_ble_eq_true rfl) hc
theorem r134_9 (d : Nat) (ls st : List Value) (σ : am_St) (τ : Int64) (x : Int32) : am_run d 134 9 ls (.int x :: st) σ τ = if x = 0 then am_run d 134 20 ls st σ τ else am_run d 134 12 ls st σ τ := (rr_if 20 dX10_lasts_9 (by decide)).trans am_sel
theorem r134_12 (d : Nat) (st : List Value) (σ : am_St) (τ : Int64) (x : Nat) (v1 : Value) : am_run d 134 12 [.ref x, v1] st σ τ = am_run d 134 13 [.ref x, v1] (.ref x :: st) σ τ := rr_aload_n dX10_lasts_12 rfl
theorem r134_13 (d : Nat) (st : List Value) (σ : am_St) (τ : Int64) (x : Int32) (v0 : Value) : am_run d 134 13 [v0, .int x] st σ τ = am_run d 134 14 [v0, .int x] (.int x :: st) σ τ := rr_iload_n dX10_lasts_13 rfl
theorem r134_14 (d : Nat) (ls st : List Value) (σ : am_St) (τ : Int64) (k : Nat) (a0 : Int32) (hk : am_kc k = 10) (hc : am_cats st ≤ 8) : am_run (d + 1) 134 14 ls (.int a0 :: .ref k :: st) σ τ = (am_call d 133 [.ref k, .int a0] σ τ).bind (fun r => am_run (d + 1) 134 17 ls (r.1.toList ++ st) r.2.1 r.2.2) := rr_invv [.int a0] dX10_lasts_14 (by decide +kernel) (by decide) rfl (Nat.le_of_ble_eq_true rfl) hk hc
theorem r134_17 (d : Nat) (ls st : List Value) (σ : am_St) (τ : Int64) : am_run d 134 17 ls st σ τ = am_run d 134 22 ls st σ τ := rr_goto 22 dX10_lasts_17 (by decide)
theorem r134_20 (d : Nat) (ls st : List Value) (σ : am_St) (τ : Int64) : am_run d 134 20 ls st σ τ = am_run d 134 22 ls (.int (-101) :: st) σ τ := rr_bipush (-101) dX10_lasts_20 (by decide)
theorem r134_22 (d : Nat) (ls : List Value) (σ : am_St) (τ : Int64) (x : Int32) : am_run d 134 22 ls [.int x] σ τ = some (some (.int x), σ, τ) := rr_iret dX10_lasts_22 rfl
theorem dX10_image_0 : decode (am_code 135) 0 = .ok (.iconst 0, 1) := by decide +kernel
theorem dX10_image_1 : decode (am_code 135) 1 = .ok (.istore_n 1, 1) := by decide +kernel
theorem dX10_image_2 : decode (am_code 135) 2 = .ok (.iload_n 1, 1) := by decide +kernel
theorem dX10_image_3 : decode (am_code 135) 3 = .ok (.bipush 12, 2) := by decide +kernel
theorem dX10_image_5 : decode (am_code 135) 5 = .ok (.if_icmp .ge 55, 3) := by decide +kernel
theorem dX10_image_8 : decode (am_code 135) 8 = .ok (.aload_n 0, 1) := by decide +kernel
theorem dX10_image_9 : decode (am_code 135) 9 = .ok (.getfield 89, 3) := by decide +kernel
theorem dX10_image_12 : decode (am_code 135) 12 = .ok (.iconst 3, 1) := by decide +kernel
theorem dX10_image_13 : decode (am_code 135) 13 = .ok (.iload_n 1, 1) := by decide +kernel
theorem dX10_image_14 : decode (am_code 135) 14 = .ok (.imul, 1) := by decide +kernel
theorem dX10_image_15 : decode (am_code 135) 15 = .ok (.aload_n 0, 1) := by decide +kernel
theorem dX10_image_16 : decode (am_code 135) 16 = .ok (.getfield 31, 3) := by decide +kernel
theorem dX10_image_19 : decode (am_code 135) 19 = .ok (.iload_n 1, 1) := by decide +kernel
theorem dX10_image_20 : decode (am_code 135) 20 = .ok (.iaload, 1) := by decide +kernel
theorem dX10_image_21 : decode (am_code 135) 21 = .ok (.iastore, 1) := by decide +kernel
theorem dX10_image_22 : decode (am_code 135) 22 = .ok (.aload_n 0, 1) := by decide +kernel
theorem dX10_image_23 : decode (am_code 135) 23 = .ok (.getfield 89, 3) := by decide +kernel
theorem dX10_image_26 : decode (am_code 135) 26 = .ok (.iconst 3, 1) := by decide +kernel
theorem dX10_image_27 : decode (am_code 135) 27 = .ok (.iload_n 1, 1) := by decide +kernel
theorem dX10_image_28 : decode (am_code 135) 28 = .ok (.imul, 1) := by decide +kernel
theorem dX10_image_29 : decode (am_code 135) 29 = .ok (.iconst 1, 1) := by decide +kernel
theorem dX10_image_30 : decode (am_code 135) 30 = .ok (.iadd, 1) := by decide +kernel
theorem dX10_image_31 : decode (am_code 135) 31 = .ok (.aload_n 0, 1) := by decide +kernel
theorem dX10_image_32 : decode (am_code 135) 32 = .ok (.getfield 34, 3) := by decide +kernel
theorem dX10_image_35 : decode (am_code 135) 35 = .ok (.iload_n 1, 1) := by decide +kernel
theorem dX10_image_36 : decode (am_code 135) 36 = .ok (.iaload, 1) := by decide +kernel
theorem dX10_image_37 : decode (am_code 135) 37 = .ok (.iastore, 1) := by decide +kernel
theorem dX10_image_38 : decode (am_code 135) 38 = .ok (.aload_n 0, 1) := by decide +kernel
theorem dX10_image_39 : decode (am_code 135) 39 = .ok (.getfield 89, 3) := by decide +kernel
theorem dX10_image_42 : decode (am_code 135) 42 = .ok (.iconst 3, 1) := by decide +kernel
theorem dX10_image_43 : decode (am_code 135) 43 = .ok (.iload_n 1, 1) := by decide +kernel
theorem dX10_image_44 : decode (am_code 135) 44 = .ok (.imul, 1) := by decide +kernel
theorem dX10_image_45 : decode (am_code 135) 45 = .ok (.iconst 2, 1) := by decide +kernel
theorem dX10_image_46 : decode (am_code 135) 46 = .ok (.iadd, 1) := by decide +kernel
theorem dX10_image_47 : decode (am_code 135) 47 = .ok (.aload_n 0, 1) := by decide +kernel
theorem dX10_image_48 : decode (am_code 135) 48 = .ok (.getfield 37, 3) := by decide +kernel
theorem dX10_image_51 : decode (am_code 135) 51 = .ok (.iload_n 1, 1) := by decide +kernel
theorem dX10_image_52 : decode (am_code 135) 52 = .ok (.iaload, 1) := by decide +kernel
theorem dX10_image_53 : decode (am_code 135) 53 = .ok (.iastore, 1) := by decide +kernel
theorem dX10_image_54 : decode (am_code 135) 54 = .ok (.iinc 1 1, 3) := by decide +kernel
theorem dX10_image_57 : decode (am_code 135) 57 = .ok (.goto (-55), 3) := by decide +kernel
theorem dX10_image_60 : decode (am_code 135) 60 = .ok (.aload_n 0, 1) := by decide +kernel
theorem dX10_image_61 : decode (am_code 135) 61 = .ok (.aload_n 0, 1) := by decide +kernel
theorem dX10_image_62 : decode (am_code 135) 62 = .ok (.getfield 129, 3) := by decide +kernel
theorem dX10_image_65 : decode (am_code 135) 65 = .ok (.putfield 92, 3) := by decide +kernel
theorem dX10_image_68 : decode (am_code 135) 68 = .ok (.aload_n 0, 1) := by decide +kernel
theorem dX10_image_69 : decode (am_code 135) 69 = .ok (.aload_n 0, 1) := by decide +kernel
theorem dX10_image_70 : decode (am_code 135) 70 = .ok (.getfield 149, 3) := by decide +kernel
theorem dX10_image_73 : decode (am_code 135) 73 = .ok (.putfield 237, 3) := by decide +kernel
theorem dX10_image_76 : decode (am_code 135) 76 = .ok (.aload_n 0, 1) := by decide +kernel
theorem dX10_image_77 : decode (am_code 135) 77 = .ok (.getfield 129, 3) := by decide +kernel
theorem dX10_image_80 : decode (am_code 135) 80 = .ok (.ireturn, 1) := by decide +kernel
theorem r135_0 (d : Nat) (ls st : List Value) (σ : am_St) (τ : Int64) : am_run d 135 0 ls st σ τ = am_run d 135 1 ls (.int 0 :: st) σ τ := rr_iconst 0 dX10_image_0 (by decide)
theorem r135_1 (d : Nat) (st : List Value) (σ : am_St) (τ : Int64) (x : Int32) (v0 v1 : Value) : am_run d 135 1 [v0, v1] (.int x :: st) σ τ = am_run d 135 2 [am_nl v0, .int x] st σ τ := rr_istore_n _ dX10_image_1 (by decide) (by first | rfl | (by_cases h : v0.category = 2 <;> simp [am_set1, am_nl, h]))
theorem r135_2 (d : Nat) (st : List Value) (σ : am_St) (τ : Int64) (x : Int32) (v0 : Value) : am_run d 135 2 [v0, .int x] st σ τ = am_run d 135 3 [v0, .int x] (.int x :: st) σ τ := rr_iload_n dX10_image_2 rfl
theorem r135_3 (d : Nat) (ls st : List Value) (σ : am_St) (τ : Int64) : am_run d 135 3 ls st σ τ = am_run d 135 5 ls (.int 12 :: st) σ τ := rr_bipush 12 dX10_image_3 (by decide)
theorem r135_5 (d : Nat) (ls st : List Value) (σ : am_St) (τ : Int64) (x y : Int32) : am_run d 135 5 ls (.int y :: .int x :: st) σ τ = if y ≤ x then am_run d 135 60 ls st σ τ else am_run d 135 8 ls st σ τ := (rr_icmp 60 dX10_image_5 (by decide)).trans am_sel
theorem r135_8 (d : Nat) (st : List Value) (σ : am_St) (τ : Int64) (x : Nat) (v1 : Value) : am_run d 135 8 [.ref x, v1] st σ τ = am_run d 135 9 [.ref x, v1] (.ref x :: st) σ τ := rr_aload_n dX10_image_8 rfl
theorem r135_9 (d : Nat) (ls st : List Value) (σ : am_St) (τ : Int64) (k : Nat) : am_run d 135 9 ls (.ref k :: st) σ τ = am_gf k 10 34 σ τ (fun v => am_run d 135 12 ls (v :: st) σ τ) := rr_getf dX10_image_9 (by decide +kernel)
theorem r135_12 (d : Nat) (ls st : List Value) (σ : am_St) (τ : Int64) : am_run d 135 12 ls st σ τ = am_run d 135 13 ls (.int 3 :: st) σ τ := rr_iconst 3 dX10_image_12 (by decide)
theorem r135_13 (d : Nat) (st : List Value) (σ : am_St) (τ : Int64) (x : Int32) (v0 : Value) : am_run d 135 13 [v0, .int x] st σ τ = am_run d 135 14 [v0, .int x] (.int x :: st) σ τ := rr_iload_n dX10_image_13 rfl
theorem r135_14 (d : Nat) (ls st : List Value) (σ : am_St) (τ : Int64) (x y : Int32) : am_run d 135 14 ls (.int y :: .int x :: st) σ τ = am_run d 135 15 ls (.int (x * y) :: st) σ τ := rr_imul dX10_image_14
theorem r135_15 (d : Nat) (st : List Value) (σ : am_St) (τ : Int64) (x : Nat) (v1 : Value) : am_run d 135 15 [.ref x, v1] st σ τ = am_run d 135 16 [.ref x, v1] (.ref x :: st) σ τ := rr_aload_n dX10_image_15 rfl
theorem r135_16 (d : Nat) (ls st : List Value) (σ : am_St) (τ : Int64) (k : Nat) : am_run d 135 16 ls (.ref k :: st) σ τ = am_gf k 10 12 σ τ (fun v => am_run d 135 19 ls (v :: st) σ τ) := rr_getf dX10_image_16 (by decide +kernel)
theorem r135_19 (d : Nat) (st : List Value) (σ : am_St) (τ : Int64) (x : Int32) (v0 : Value) : am_run d 135 19 [v0, .int x] st σ τ = am_run d 135 20 [v0, .int x] (.int x :: st) σ τ := rr_iload_n dX10_image_19 rfl
theorem r135_20 (d : Nat) (ls st : List Value) (σ : am_St) (τ : Int64) (i : Int32) (k : Nat) : am_run d 135 20 ls (.int i :: .ref k :: st) σ τ = am_ai false k i (fun j => am_run d 135 21 ls (.int (σ k j) :: st) σ τ) := rr_iald dX10_image_20
theorem r135_21 (d : Nat) (ls st : List Value) (σ : am_St) (τ : Int64) (x i : Int32) (k : Nat) : am_run d 135 21 ls (.int x :: .int i :: .ref k :: st) σ τ = am_ai false k i (fun j => am_run d 135 22 ls st (am_up σ k j x) τ) := rr_iast dX10_image_21
theorem r135_22 (d : Nat) (st : List Value) (σ : am_St) (τ : Int64) (x : Nat) (v1 : Value) : am_run d 135 22 [.ref x, v1] st σ τ = am_run d 135 23 [.ref x, v1] (.ref x :: st) σ τ := rr_aload_n dX10_image_22 rfl
theorem r135_23 (d : Nat) (ls st : List Value) (σ : am_St) (τ : Int64) (k : Nat) : am_run d 135 23 ls (.ref k :: st) σ τ = am_gf k 10 34 σ τ (fun v => am_run d 135 26 ls (v :: st) σ τ) := rr_getf dX10_image_23 (by decide +kernel)
theorem r135_26 (d : Nat) (ls st : List Value) (σ : am_St) (τ : Int64) : am_run d 135 26 ls st σ τ = am_run d 135 27 ls (.int 3 :: st) σ τ := rr_iconst 3 dX10_image_26 (by decide)
theorem r135_27 (d : Nat) (st : List Value) (σ : am_St) (τ : Int64) (x : Int32) (v0 : Value) : am_run d 135 27 [v0, .int x] st σ τ = am_run d 135 28 [v0, .int x] (.int x :: st) σ τ := rr_iload_n dX10_image_27 rfl
theorem r135_28 (d : Nat) (ls st : List Value) (σ : am_St) (τ : Int64) (x y : Int32) : am_run d 135 28 ls (.int y :: .int x :: st) σ τ = am_run d 135 29 ls (.int (x * y) :: st) σ τ := rr_imul dX10_image_28
theorem r135_29 (d : Nat) (ls st : List Value) (σ : am_St) (τ : Int64) : am_run d 135 29 ls st σ τ = am_run d 135 30 ls (.int 1 :: st) σ τ := rr_iconst 1 dX10_image_29 (by decide)
theorem r135_30 (d : Nat) (ls st : List Value) (σ : am_St) (τ : Int64) (x y : Int32) : am_run d 135 30 ls (.int y :: .int x :: st) σ τ = am_run d 135 31 ls (.int (x + y) :: st) σ τ := rr_iadd dX10_image_30
theorem r135_31 (d : Nat) (st : List Value) (σ : am_St) (τ : Int64) (x : Nat) (v1 : Value) : am_run d 135 31 [.ref x, v1] st σ τ = am_run d 135 32 [.ref x, v1] (.ref x :: st) σ τ := rr_aload_n dX10_image_31 rfl
theorem r135_32 (d : Nat) (ls st : List Value) (σ : am_St) (τ : Int64) (k : Nat) : am_run d 135 32 ls (.ref k :: st) σ τ = am_gf k 10 13 σ τ (fun v => am_run d 135 35 ls (v :: st) σ τ) := rr_getf dX10_image_32 (by decide +kernel)
theorem r135_35 (d : Nat) (st : List Value) (σ : am_St) (τ : Int64) (x : Int32) (v0 : Value) : am_run d 135 35 [v0, .int x] st σ τ = am_run d 135 36 [v0, .int x] (.int x :: st) σ τ := rr_iload_n dX10_image_35 rfl
theorem r135_36 (d : Nat) (ls st : List Value) (σ : am_St) (τ : Int64) (i : Int32) (k : Nat) : am_run d 135 36 ls (.int i :: .ref k :: st) σ τ = am_ai false k i (fun j => am_run d 135 37 ls (.int (σ k j) :: st) σ τ) := rr_iald dX10_image_36
theorem r135_37 (d : Nat) (ls st : List Value) (σ : am_St) (τ : Int64) (x i : Int32) (k : Nat) : am_run d 135 37 ls (.int x :: .int i :: .ref k :: st) σ τ = am_ai false k i (fun j => am_run d 135 38 ls st (am_up σ k j x) τ) := rr_iast dX10_image_37
theorem r135_38 (d : Nat) (st : List Value) (σ : am_St) (τ : Int64) (x : Nat) (v1 : Value) : am_run d 135 38 [.ref x, v1] st σ τ = am_run d 135 39 [.ref x, v1] (.ref x :: st) σ τ := rr_aload_n dX10_image_38 rfl
theorem r135_39 (d : Nat) (ls st : List Value) (σ : am_St) (τ : Int64) (k : Nat) : am_run d 135 39 ls (.ref k :: st) σ τ = am_gf k 10 34 σ τ (fun v => am_run d 135 42 ls (v :: st) σ τ) := rr_getf dX10_image_39 (by decide +kernel)
theorem r135_42 (d : Nat) (ls st : List Value) (σ : am_St) (τ : Int64) : am_run d 135 42 ls st σ τ = am_run d 135 43 ls (.int 3 :: st) σ τ := rr_iconst 3 dX10_image_42 (by decide)
theorem r135_43 (d : Nat) (st : List Value) (σ : am_St) (τ : Int64) (x : Int32) (v0 : Value) : am_run d 135 43 [v0, .int x] st σ τ = am_run d 135 44 [v0, .int x] (.int x :: st) σ τ := rr_iload_n dX10_image_43 rfl
theorem r135_44 (d : Nat) (ls st : List Value) (σ : am_St) (τ : Int64) (x y : Int32) : am_run d 135 44 ls (.int y :: .int x :: st) σ τ = am_run d 135 45 ls (.int (x * y) :: st) σ τ := rr_imul dX10_image_44
theorem r135_45 (d : Nat) (ls st : List Value) (σ : am_St) (τ : Int64) : am_run d 135 45 ls st σ τ = am_run d 135 46 ls (.int 2 :: st) σ τ := rr_iconst 2 dX10_image_45 (by decide)
theorem r135_46 (d : Nat) (ls st : List Value) (σ : am_St) (τ : Int64) (x y : Int32) : am_run d 135 46 ls (.int y :: .int x :: st) σ τ = am_run d 135 47 ls (.int (x + y) :: st) σ τ := rr_iadd dX10_image_46
theorem r135_47 (d : Nat) (st : List Value) (σ : am_St) (τ : Int64) (x : Nat) (v1 : Value) : am_run d 135 47 [.ref x, v1] st σ τ = am_run d 135 48 [.ref x, v1] (.ref x :: st) σ τ := rr_aload_n dX10_image_47 rfl
theorem r135_48 (d : Nat) (ls st : List Value) (σ : am_St) (τ : Int64) (k : Nat) : am_run d 135 48 ls (.ref k :: st) σ τ = am_gf k 10 14 σ τ (fun v => am_run d 135 51 ls (v :: st) σ τ) := rr_getf dX10_image_48 (by decide +kernel)
theorem r135_51 (d : Nat) (st : List Value) (σ : am_St) (τ : Int64) (x : Int32) (v0 : Value) : am_run d 135 51 [v0, .int x] st σ τ = am_run d 135 52 [v0, .int x] (.int x :: st) σ τ := rr_iload_n dX10_image_51 rfl
theorem r135_52 (d : Nat) (ls st : List Value) (σ : am_St) (τ : Int64) (i : Int32) (k : Nat) : am_run d 135 52 ls (.int i :: .ref k :: st) σ τ = am_ai false k i (fun j => am_run d 135 53 ls (.int (σ k j) :: st) σ τ) := rr_iald dX10_image_52
theorem r135_53 (d : Nat) (ls st : List Value) (σ : am_St) (τ : Int64) (x i : Int32) (k : Nat) : am_run d 135 53 ls (.int x :: .int i :: .ref k :: st) σ τ = am_ai false k i (fun j => am_run d 135 54 ls st (am_up σ k j x) τ) := rr_iast dX10_image_53
theorem r135_54 (d : Nat) (st : List Value) (σ : am_St) (τ : Int64) (x : Int32) (v0 : Value) : am_run d 135 54 [v0, .int x] st σ τ = am_run d 135 57 [am_nl v0, .int (x + 1)] st σ τ := rr_iinc 1 _ dX10_image_54 rfl (by decide) (by decide) (by first | rfl | (by_cases h : v0.category = 2 <;> simp [am_set1, am_nl, h]))
theorem r135_57 (d : Nat) (ls st : List Value) (σ : am_St) (τ : Int64) : am_run d 135 57 ls st σ τ = am_run d 135 2 ls st σ τ := rr_goto 2 dX10_image_57 (by decide)
theorem r135_60 (d : Nat) (st : List Value) (σ : am_St) (τ : Int64) (x : Nat) (v1 : Value) : am_run d 135 60 [.ref x, v1] st σ τ = am_run d 135 61 [.ref x, v1] (.ref x :: st) σ τ := rr_aload_n dX10_image_60 rfl
theorem r135_61 (d : Nat) (st : List Value) (σ : am_St) (τ : Int64) (x : Nat) (v1 : Value) : am_run d 135 61 [.ref x, v1] st σ τ = am_run d 135 62 [.ref x, v1] (.ref x :: st) σ τ := rr_aload_n dX10_image_61 rfl
theorem r135_62 (d : Nat) (ls st : List Value) (σ : am_St) (τ : Int64) (k : Nat) : am_run d 135 62 ls (.ref k :: st) σ τ = am_gf k 10 6 σ τ (fun v => am_run d 135 65 ls (v :: st) σ τ) := rr_getf dX10_image_62 (by decide +kernel)
theorem r135_65 (d : Nat) (ls st : List Value) (σ : am_St) (τ : Int64) (k : Nat) (x : Int32) : am_run d 135 65 ls (.int x :: .ref k :: st) σ τ = am_pf k 10 32 x σ (fun σ => am_run d 135 68 ls st σ τ) := rr_putf dX10_image_65 (by decide +kernel)
theorem r135_68 (d : Nat) (st : List Value) (σ : am_St) (τ : Int64) (x : Nat) (v1 : Value) : am_run d 135 68 [.ref x, v1] st σ τ = am_run d 135 69 [.ref x, v1] (.ref x :: st) σ τ := rr_aload_n dX10_image_68 rfl
theorem r135_69 (d : Nat) (st : List Value) (σ : am_St) (τ : Int64) (x : Nat) (v1 : Value) : am_run d 135 69 [.ref x, v1] st σ τ = am_run d 135 70 [.ref x, v1] (.ref x :: st) σ τ := rr_aload_n dX10_image_69 rfl
theorem r135_70 (d : Nat) (ls st : List Value) (σ : am_St) (τ : Int64) (k : Nat) : am_run d 135 70 ls (.ref k :: st) σ τ = am_gf k 10 7 σ τ (fun v => am_run d 135 73 ls (v :: st) σ τ) := rr_getf dX10_image_70 (by decide +kernel)
theorem r135_73 (d : Nat) (ls st : List Value) (σ : am_St) (τ : Int64) (k : Nat) (x : Int32) : am_run d 135 73 ls (.int x :: .ref k :: st) σ τ = am_pf k 10 33 x σ (fun σ => am_run d 135 76 ls st σ τ) := rr_putf dX10_image_73 (by decide +kernel)
theorem r135_76 (d : Nat) (st : List Value) (σ : am_St) (τ : Int64) (x : Nat) (v1 : Value) : am_run d 135 76 [.ref x, v1] st σ τ = am_run d 135 77 [.ref x, v1] (.ref x :: st) σ τ := rr_aload_n dX10_image_76 rfl
theorem r135_77 (d : Nat) (ls st : List Value) (σ : am_St) (τ : Int64) (k : Nat) : am_run d 135 77 ls (.ref k :: st) σ τ = am_gf k 10 6 σ τ (fun v => am_run d 135 80 ls (v :: st) σ τ) := rr_getf dX10_image_77 (by decide +kernel)
theorem r135_80 (d : Nat) (ls : List Value) (σ : am_St) (τ : Int64) (x : Int32) : am_run d 135 80 ls [.int x] σ τ = some (some (.int x), σ, τ) := rr_iret dX10_image_80 rfl
theorem dX10_restore_0 : decode (am_code 136) 0 = .ok (.aload_n 0, 1) := by decide +kernel
theorem dX10_restore_1 : decode (am_code 136) 1 = .ok (.getfield 92, 3) := by decide +kernel
theorem dX10_restore_4 : decode (am_code 136) 4 = .ok (.iconst (-1), 1) := by decide +kernel
theorem dX10_restore_5 : decode (am_code 136) 5 = .ok (.if_icmp .ne 6, 3) := by decide +kernel
theorem dX10_restore_8 : decode (am_code 136) 8 = .ok (.bipush (-103), 2) := by decide +kernel
theorem dX10_restore_10 : decode (am_code 136) 10 = .ok (.ireturn, 1) := by decide +kernel
theorem dX10_restore_11 : decode (am_code 136) 11 = .ok (.iconst 0, 1) := by decide +kernel
theorem dX10_restore_12 : decode (am_code 136) 12 = .ok (.istore_n 1, 1) := by decide +kernel
theorem dX10_restore_13 : decode (am_code 136) 13 = .ok (.iload_n 1, 1) := by decide +kernel
theorem dX10_restore_14 : decode (am_code 136) 14 = .ok (.bipush 12, 2) := by decide +kernel
theorem dX10_restore_16 : decode (am_code 136) 16 = .ok (.if_icmp .ge 55, 3) := by decide +kernel
theorem dX10_restore_19 : decode (am_code 136) 19 = .ok (.aload_n 0, 1) := by decide +kernel
theorem dX10_restore_20 : decode (am_code 136) 20 = .ok (.getfield 31, 3) := by decide +kernel
theorem dX10_restore_23 : decode (am_code 136) 23 = .ok (.iload_n 1, 1) := by decide +kernel
theorem dX10_restore_24 : decode (am_code 136) 24 = .ok (.aload_n 0, 1) := by decide +kernel
theorem dX10_restore_25 : decode (am_code 136) 25 = .ok (.getfield 89, 3) := by decide +kernel
theorem dX10_restore_28 : decode (am_code 136) 28 = .ok (.iconst 3, 1) := by decide +kernel
theorem dX10_restore_29 : decode (am_code 136) 29 = .ok (.iload_n 1, 1) := by decide +kernel
theorem dX10_restore_30 : decode (am_code 136) 30 = .ok (.imul, 1) := by decide +kernel
theorem dX10_restore_31 : decode (am_code 136) 31 = .ok (.iaload, 1) := by decide +kernel
theorem dX10_restore_32 : decode (am_code 136) 32 = .ok (.iastore, 1) := by decide +kernel
theorem dX10_restore_33 : decode (am_code 136) 33 = .ok (.aload_n 0, 1) := by decide +kernel
theorem dX10_restore_34 : decode (am_code 136) 34 = .ok (.getfield 34, 3) := by decide +kernel
theorem dX10_restore_37 : decode (am_code 136) 37 = .ok (.iload_n 1, 1) := by decide +kernel
theorem dX10_restore_38 : decode (am_code 136) 38 = .ok (.aload_n 0, 1) := by decide +kernel
theorem dX10_restore_39 : decode (am_code 136) 39 = .ok (.getfield 89, 3) := by decide +kernel
theorem dX10_restore_42 : decode (am_code 136) 42 = .ok (.iconst 3, 1) := by decide +kernel
theorem dX10_restore_43 : decode (am_code 136) 43 = .ok (.iload_n 1, 1) := by decide +kernel
theorem dX10_restore_44 : decode (am_code 136) 44 = .ok (.imul, 1) := by decide +kernel
theorem dX10_restore_45 : decode (am_code 136) 45 = .ok (.iconst 1, 1) := by decide +kernel
theorem dX10_restore_46 : decode (am_code 136) 46 = .ok (.iadd, 1) := by decide +kernel
theorem dX10_restore_47 : decode (am_code 136) 47 = .ok (.iaload, 1) := by decide +kernel
theorem dX10_restore_48 : decode (am_code 136) 48 = .ok (.iastore, 1) := by decide +kernel
theorem dX10_restore_49 : decode (am_code 136) 49 = .ok (.aload_n 0, 1) := by decide +kernel
theorem dX10_restore_50 : decode (am_code 136) 50 = .ok (.getfield 37, 3) := by decide +kernel
theorem dX10_restore_53 : decode (am_code 136) 53 = .ok (.iload_n 1, 1) := by decide +kernel
theorem dX10_restore_54 : decode (am_code 136) 54 = .ok (.aload_n 0, 1) := by decide +kernel
theorem dX10_restore_55 : decode (am_code 136) 55 = .ok (.getfield 89, 3) := by decide +kernel
theorem dX10_restore_58 : decode (am_code 136) 58 = .ok (.iconst 3, 1) := by decide +kernel
theorem dX10_restore_59 : decode (am_code 136) 59 = .ok (.iload_n 1, 1) := by decide +kernel
theorem dX10_restore_60 : decode (am_code 136) 60 = .ok (.imul, 1) := by decide +kernel
theorem dX10_restore_61 : decode (am_code 136) 61 = .ok (.iconst 2, 1) := by decide +kernel
theorem dX10_restore_62 : decode (am_code 136) 62 = .ok (.iadd, 1) := by decide +kernel
theorem dX10_restore_63 : decode (am_code 136) 63 = .ok (.iaload, 1) := by decide +kernel
theorem dX10_restore_64 : decode (am_code 136) 64 = .ok (.iastore, 1) := by decide +kernel
theorem dX10_restore_65 : decode (am_code 136) 65 = .ok (.iinc 1 1, 3) := by decide +kernel
theorem dX10_restore_68 : decode (am_code 136) 68 = .ok (.goto (-55), 3) := by decide +kernel
theorem dX10_restore_71 : decode (am_code 136) 71 = .ok (.aload_n 0, 1) := by decide +kernel
theorem dX10_restore_72 : decode (am_code 136) 72 = .ok (.aload_n 0, 1) := by decide +kernel
theorem dX10_restore_73 : decode (am_code 136) 73 = .ok (.getfield 92, 3) := by decide +kernel
theorem dX10_restore_76 : decode (am_code 136) 76 = .ok (.putfield 129, 3) := by decide +kernel
theorem dX10_restore_79 : decode (am_code 136) 79 = .ok (.aload_n 0, 1) := by decide +kernel
theorem dX10_restore_80 : decode (am_code 136) 80 = .ok (.aload_n 0, 1) := by decide +kernel
theorem dX10_restore_81 : decode (am_code 136) 81 = .ok (.getfield 237, 3) := by decide +kernel
theorem dX10_restore_84 : decode (am_code 136) 84 = .ok (.putfield 149, 3) := by decide +kernel
theorem dX10_restore_87 : decode (am_code 136) 87 = .ok (.aload_n 0, 1) := by decide +kernel
theorem dX10_restore_88 : decode (am_code 136) 88 = .ok (.getfield 129, 3) := by decide +kernel
theorem dX10_restore_91 : decode (am_code 136) 91 = .ok (.ireturn, 1) := by decide +kernel
theorem r136_0 (d : Nat) (st : List Value) (σ : am_St) (τ : Int64) (x : Nat) (v1 : Value) : am_run d 136 0 [.ref x, v1] st σ τ = am_run d 136 1 [.ref x, v1] (.ref x :: st) σ τ := rr_aload_n dX10_restore_0 rfl
theorem r136_1 (d : Nat) (ls st : List Value) (σ : am_St) (τ : Int64) (k : Nat) : am_run d 136 1 ls (.ref k :: st) σ τ = am_gf k 10 32 σ τ (fun v => am_run d 136 4 ls (v :: st) σ τ) := rr_getf dX10_restore_1 (by decide +kernel)
theorem r136_4 (d : Nat) (ls st : List Value) (σ : am_St) (τ : Int64) : am_run d 136 4 ls st σ τ = am_run d 136 5 ls (.int (-1) :: st) σ τ := rr_iconst (-1) dX10_restore_4 (by decide)
theorem r136_5 (d : Nat) (ls st : List Value) (σ : am_St) (τ : Int64) (x y : Int32) : am_run d 136 5 ls (.int y :: .int x :: st) σ τ = if x = y then am_run d 136 8 ls st σ τ else am_run d 136 11 ls st σ τ := (rr_icmp 11 dX10_restore_5 (by decide)).trans am_seln
theorem r136_8 (d : Nat) (ls st : List Value) (σ : am_St) (τ : Int64) : am_run d 136 8 ls st σ τ = am_run d 136 10 ls (.int (-103) :: st) σ τ := rr_bipush (-103) dX10_restore_8 (by decide)
theorem r136_10 (d : Nat) (ls : List Value) (σ : am_St) (τ : Int64) (x : Int32) : am_run d 136 10 ls [.int x] σ τ = some (some (.int x), σ, τ) := rr_iret dX10_restore_10 rfl
theorem r136_11 (d : Nat) (ls st : List Value) (σ : am_St) (τ : Int64) : am_run d 136 11 ls st σ τ = am_run d 136 12 ls (.int 0 :: st) σ τ := rr_iconst 0 dX10_restore_11 (by decide)
theorem r136_12 (d : Nat) (st : List Value) (σ : am_St) (τ : Int64) (x : Int32) (v0 v1 : Value) : am_run d 136 12 [v0, v1] (.int x :: st) σ τ = am_run d 136 13 [am_nl v0, .int x] st σ τ := rr_istore_n _ dX10_restore_12 (by decide) (by first | rfl | (by_cases h : v0.category = 2 <;> simp [am_set1, am_nl, h]))
theorem r136_13 (d : Nat) (st : List Value) (σ : am_St) (τ : Int64) (x : Int32) (v0 : Value) : am_run d 136 13 [v0, .int x] st σ τ = am_run d 136 14 [v0, .int x] (.int x :: st) σ τ := rr_iload_n dX10_restore_13 rfl
theorem r136_14 (d : Nat) (ls st : List Value) (σ : am_St) (τ : Int64) : am_run d 136 14 ls st σ τ = am_run d 136 16 ls (.int 12 :: st) σ τ := rr_bipush 12 dX10_restore_14 (by decide)
theorem r136_16 (d : Nat) (ls st : List Value) (σ : am_St) (τ : Int64) (x y : Int32) : am_run d 136 16 ls (.int y :: .int x :: st) σ τ = if y ≤ x then am_run d 136 71 ls st σ τ else am_run d 136 19 ls st σ τ := (rr_icmp 71 dX10_restore_16 (by decide)).trans am_sel
theorem r136_19 (d : Nat) (st : List Value) (σ : am_St) (τ : Int64) (x : Nat) (v1 : Value) : am_run d 136 19 [.ref x, v1] st σ τ = am_run d 136 20 [.ref x, v1] (.ref x :: st) σ τ := rr_aload_n dX10_restore_19 rfl
theorem r136_20 (d : Nat) (ls st : List Value) (σ : am_St) (τ : Int64) (k : Nat) : am_run d 136 20 ls (.ref k :: st) σ τ = am_gf k 10 12 σ τ (fun v => am_run d 136 23 ls (v :: st) σ τ) := rr_getf dX10_restore_20 (by decide +kernel)
theorem r136_23 (d : Nat) (st : List Value) (σ : am_St) (τ : Int64) (x : Int32) (v0 : Value) : am_run d 136 23 [v0, .int x] st σ τ = am_run d 136 24 [v0, .int x] (.int x :: st) σ τ := rr_iload_n dX10_restore_23 rfl
theorem r136_24 (d : Nat) (st : List Value) (σ : am_St) (τ : Int64) (x : Nat) (v1 : Value) : am_run d 136 24 [.ref x, v1] st σ τ = am_run d 136 25 [.ref x, v1] (.ref x :: st) σ τ := rr_aload_n dX10_restore_24 rfl
theorem r136_25 (d : Nat) (ls st : List Value) (σ : am_St) (τ : Int64) (k : Nat) : am_run d 136 25 ls (.ref k :: st) σ τ = am_gf k 10 34 σ τ (fun v => am_run d 136 28 ls (v :: st) σ τ) := rr_getf dX10_restore_25 (by decide +kernel)
theorem r136_28 (d : Nat) (ls st : List Value) (σ : am_St) (τ : Int64) : am_run d 136 28 ls st σ τ = am_run d 136 29 ls (.int 3 :: st) σ τ := rr_iconst 3 dX10_restore_28 (by decide)
theorem r136_29 (d : Nat) (st : List Value) (σ : am_St) (τ : Int64) (x : Int32) (v0 : Value) : am_run d 136 29 [v0, .int x] st σ τ = am_run d 136 30 [v0, .int x] (.int x :: st) σ τ := rr_iload_n dX10_restore_29 rfl
theorem r136_30 (d : Nat) (ls st : List Value) (σ : am_St) (τ : Int64) (x y : Int32) : am_run d 136 30 ls (.int y :: .int x :: st) σ τ = am_run d 136 31 ls (.int (x * y) :: st) σ τ := rr_imul dX10_restore_30
theorem r136_31 (d : Nat) (ls st : List Value) (σ : am_St) (τ : Int64) (i : Int32) (k : Nat) : am_run d 136 31 ls (.int i :: .ref k :: st) σ τ = am_ai false k i (fun j => am_run d 136 32 ls (.int (σ k j) :: st) σ τ) := rr_iald dX10_restore_31
theorem r136_32 (d : Nat) (ls st : List Value) (σ : am_St) (τ : Int64) (x i : Int32) (k : Nat) : am_run d 136 32 ls (.int x :: .int i :: .ref k :: st) σ τ = am_ai false k i (fun j => am_run d 136 33 ls st (am_up σ k j x) τ) := rr_iast dX10_restore_32
theorem r136_33 (d : Nat) (st : List Value) (σ : am_St) (τ : Int64) (x : Nat) (v1 : Value) : am_run d 136 33 [.ref x, v1] st σ τ = am_run d 136 34 [.ref x, v1] (.ref x :: st) σ τ := rr_aload_n dX10_restore_33 rfl
theorem r136_34 (d : Nat) (ls st : List Value) (σ : am_St) (τ : Int64) (k : Nat) : am_run d 136 34 ls (.ref k :: st) σ τ = am_gf k 10 13 σ τ (fun v => am_run d 136 37 ls (v :: st) σ τ) := rr_getf dX10_restore_34 (by decide +kernel)
theorem r136_37 (d : Nat) (st : List Value) (σ : am_St) (τ : Int64) (x : Int32) (v0 : Value) : am_run d 136 37 [v0, .int x] st σ τ = am_run d 136 38 [v0, .int x] (.int x :: st) σ τ := rr_iload_n dX10_restore_37 rfl
theorem r136_38 (d : Nat) (st : List Value) (σ : am_St) (τ : Int64) (x : Nat) (v1 : Value) : am_run d 136 38 [.ref x, v1] st σ τ = am_run d 136 39 [.ref x, v1] (.ref x :: st) σ τ := rr_aload_n dX10_restore_38 rfl
theorem r136_39 (d : Nat) (ls st : List Value) (σ : am_St) (τ : Int64) (k : Nat) : am_run d 136 39 ls (.ref k :: st) σ τ = am_gf k 10 34 σ τ (fun v => am_run d 136 42 ls (v :: st) σ τ) := rr_getf dX10_restore_39 (by decide +kernel)
theorem r136_42 (d : Nat) (ls st : List Value) (σ : am_St) (τ : Int64) : am_run d 136 42 ls st σ τ = am_run d 136 43 ls (.int 3 :: st) σ τ := rr_iconst 3 dX10_restore_42 (by decide)
theorem r136_43 (d : Nat) (st : List Value) (σ : am_St) (τ : Int64) (x : Int32) (v0 : Value) : am_run d 136 43 [v0, .int x] st σ τ = am_run d 136 44 [v0, .int x] (.int x :: st) σ τ := rr_iload_n dX10_restore_43 rfl
theorem r136_44 (d : Nat) (ls st : List Value) (σ : am_St) (τ : Int64) (x y : Int32) : am_run d 136 44 ls (.int y :: .int x :: st) σ τ = am_run d 136 45 ls (.int (x * y) :: st) σ τ := rr_imul dX10_restore_44
theorem r136_45 (d : Nat) (ls st : List Value) (σ : am_St) (τ : Int64) : am_run d 136 45 ls st σ τ = am_run d 136 46 ls (.int 1 :: st) σ τ := rr_iconst 1 dX10_restore_45 (by decide)
theorem r136_46 (d : Nat) (ls st : List Value) (σ : am_St) (τ : Int64) (x y : Int32) : am_run d 136 46 ls (.int y :: .int x :: st) σ τ = am_run d 136 47 ls (.int (x + y) :: st) σ τ := rr_iadd dX10_restore_46
theorem r136_47 (d : Nat) (ls st : List Value) (σ : am_St) (τ : Int64) (i : Int32) (k : Nat) : am_run d 136 47 ls (.int i :: .ref k :: st) σ τ = am_ai false k i (fun j => am_run d 136 48 ls (.int (σ k j) :: st) σ τ) := rr_iald dX10_restore_47
theorem r136_48 (d : Nat) (ls st : List Value) (σ : am_St) (τ : Int64) (x i : Int32) (k : Nat) : am_run d 136 48 ls (.int x :: .int i :: .ref k :: st) σ τ = am_ai false k i (fun j => am_run d 136 49 ls st (am_up σ k j x) τ) := rr_iast dX10_restore_48
theorem r136_49 (d : Nat) (st : List Value) (σ : am_St) (τ : Int64) (x : Nat) (v1 : Value) : am_run d 136 49 [.ref x, v1] st σ τ = am_run d 136 50 [.ref x, v1] (.ref x :: st) σ τ := rr_aload_n dX10_restore_49 rfl
theorem r136_50 (d : Nat) (ls st : List Value) (σ : am_St) (τ : Int64) (k : Nat) : am_run d 136 50 ls (.ref k :: st) σ τ = am_gf k 10 14 σ τ (fun v => am_run d 136 53 ls (v :: st) σ τ) := rr_getf dX10_restore_50 (by decide +kernel)
theorem r136_53 (d : Nat) (st : List Value) (σ : am_St) (τ : Int64) (x : Int32) (v0 : Value) : am_run d 136 53 [v0, .int x] st σ τ = am_run d 136 54 [v0, .int x] (.int x :: st) σ τ := rr_iload_n dX10_restore_53 rfl
theorem r136_54 (d : Nat) (st : List Value) (σ : am_St) (τ : Int64) (x : Nat) (v1 : Value) : am_run d 136 54 [.ref x, v1] st σ τ = am_run d 136 55 [.ref x, v1] (.ref x :: st) σ τ := rr_aload_n dX10_restore_54 rfl
theorem r136_55 (d : Nat) (ls st : List Value) (σ : am_St) (τ : Int64) (k : Nat) : am_run d 136 55 ls (.ref k :: st) σ τ = am_gf k 10 34 σ τ (fun v => am_run d 136 58 ls (v :: st) σ τ) := rr_getf dX10_restore_55 (by decide +kernel)
theorem r136_58 (d : Nat) (ls st : List Value) (σ : am_St) (τ : Int64) : am_run d 136 58 ls st σ τ = am_run d 136 59 ls (.int 3 :: st) σ τ := rr_iconst 3 dX10_restore_58 (by decide)
theorem r136_59 (d : Nat) (st : List Value) (σ : am_St) (τ : Int64) (x : Int32) (v0 : Value) : am_run d 136 59 [v0, .int x] st σ τ = am_run d 136 60 [v0, .int x] (.int x :: st) σ τ := rr_iload_n dX10_restore_59 rfl
theorem r136_60 (d : Nat) (ls st : List Value) (σ : am_St) (τ : Int64) (x y : Int32) : am_run d 136 60 ls (.int y :: .int x :: st) σ τ = am_run d 136 61 ls (.int (x * y) :: st) σ τ := rr_imul dX10_restore_60
theorem r136_61 (d : Nat) (ls st : List Value) (σ : am_St) (τ : Int64) : am_run d 136 61 ls st σ τ = am_run d 136 62 ls (.int 2 :: st) σ τ := rr_iconst 2 dX10_restore_61 (by decide)
theorem r136_62 (d : Nat) (ls st : List Value) (σ : am_St) (τ : Int64) (x y : Int32) : am_run d 136 62 ls (.int y :: .int x :: st) σ τ = am_run d 136 63 ls (.int (x + y) :: st) σ τ := rr_iadd dX10_restore_62
theorem r136_63 (d : Nat) (ls st : List Value) (σ : am_St) (τ : Int64) (i : Int32) (k : Nat) : am_run d 136 63 ls (.int i :: .ref k :: st) σ τ = am_ai false k i (fun j => am_run d 136 64 ls (.int (σ k j) :: st) σ τ) := rr_iald dX10_restore_63
theorem r136_64 (d : Nat) (ls st : List Value) (σ : am_St) (τ : Int64) (x i : Int32) (k : Nat) : am_run d 136 64 ls (.int x :: .int i :: .ref k :: st) σ τ = am_ai false k i (fun j => am_run d 136 65 ls st (am_up σ k j x) τ) := rr_iast dX10_restore_64
theorem r136_65 (d : Nat) (st : List Value) (σ : am_St) (τ : Int64) (x : Int32) (v0 : Value) : am_run d 136 65 [v0, .int x] st σ τ = am_run d 136 68 [am_nl v0, .int (x + 1)] st σ τ := rr_iinc 1 _ dX10_restore_65 rfl (by decide) (by decide) (by first | rfl | (by_cases h : v0.category = 2 <;> simp [am_set1, am_nl, h]))
theorem r136_68 (d : Nat) (ls st : List Value) (σ : am_St) (τ : Int64) : am_run d 136 68 ls st σ τ = am_run d 136 13 ls st σ τ := rr_goto 13 dX10_restore_68 (by decide)
theorem r136_71 (d : Nat) (st : List Value) (σ : am_St) (τ : Int64) (x : Nat) (v1 : Value) : am_run d 136 71 [.ref x, v1] st σ τ = am_run d 136 72 [.ref x, v1] (.ref x :: st) σ τ := rr_aload_n dX10_restore_71 rfl
theorem r136_72 (d : Nat) (st : List Value) (σ : am_St) (τ : Int64) (x : Nat) (v1 : Value) : am_run d 136 72 [.ref x, v1] st σ τ = am_run d 136 73 [.ref x, v1] (.ref x :: st) σ τ := rr_aload_n dX10_restore_72 rfl
theorem r136_73 (d : Nat) (ls st : List Value) (σ : am_St) (τ : Int64) (k : Nat) : am_run d 136 73 ls (.ref k :: st) σ τ = am_gf k 10 32 σ τ (fun v => am_run d 136 76 ls (v :: st) σ τ) := rr_getf dX10_restore_73 (by decide +kernel)
theorem r136_76 (d : Nat) (ls st : List Value) (σ : am_St) (τ : Int64) (k : Nat) (x : Int32) : am_run d 136 76 ls (.int x :: .ref k :: st) σ τ = am_pf k 10 6 x σ (fun σ => am_run d 136 79 ls st σ τ) := rr_putf dX10_restore_76 (by decide +kernel)
theorem r136_79 (d : Nat) (st : List Value) (σ : am_St) (τ : Int64) (x : Nat) (v1 : Value) : am_run d 136 79 [.ref x, v1] st σ τ = am_run d 136 80 [.ref x, v1] (.ref x :: st) σ τ := rr_aload_n dX10_restore_79 rfl
theorem r136_80 (d : Nat) (st : List Value) (σ : am_St) (τ : Int64) (x : Nat) (v1 : Value) : am_run d 136 80 [.ref x, v1] st σ τ = am_run d 136 81 [.ref x, v1] (.ref x :: st) σ τ := rr_aload_n dX10_restore_80 rfl
theorem r136_81 (d : Nat) (ls st : List Value) (σ : am_St) (τ : Int64) (k : Nat) : am_run d 136 81 ls (.ref k :: st) σ τ = am_gf k 10 33 σ τ (fun v => am_run d 136 84 ls (v :: st) σ τ) := rr_getf dX10_restore_81 (by decide +kernel)
theorem r136_84 (d : Nat) (ls st : List Value) (σ : am_St) (τ : Int64) (k : Nat) (x : Int32) : am_run d 136 84 ls (.int x :: .ref k :: st) σ τ = am_pf k 10 7 x σ (fun σ => am_run d 136 87 ls st σ τ) := rr_putf dX10_restore_84 (by decide +kernel)
theorem r136_87 (d : Nat) (st : List Value) (σ : am_St) (τ : Int64) (x : Nat) (v1 : Value) : am_run d 136 87 [.ref x, v1] st σ τ = am_run d 136 88 [.ref x, v1] (.ref x :: st) σ τ := rr_aload_n dX10_restore_87 rfl
theorem r136_88 (d : Nat) (ls st : List Value) (σ : am_St) (τ : Int64) (k : Nat) : am_run d 136 88 ls (.ref k :: st) σ τ = am_gf k 10 6 σ τ (fun v => am_run d 136 91 ls (v :: st) σ τ) := rr_getf dX10_restore_88 (by decide +kernel)
theorem r136_91 (d : Nat) (ls : List Value) (σ : am_St) (τ : Int64) (x : Int32) : am_run d 136 91 ls [.int x] σ τ = some (some (.int x), σ, τ) := rr_iret dX10_restore_91 rfl
theorem dX10_writtenMany_0 : decode (am_code 137) 0 = .ok (.iconst 0, 1) := by decide +kernel
theorem dX10_writtenMany_1 : decode (am_code 137) 1 = .ok (.istore_n 1, 1) := by decide +kernel
theorem dX10_writtenMany_2 : decode (am_code 137) 2 = .ok (.iconst 0, 1) := by decide +kernel
theorem dX10_writtenMany_3 : decode (am_code 137) 3 = .ok (.istore_n 2, 1) := by decide +kernel
theorem dX10_writtenMany_4 : decode (am_code 137) 4 = .ok (.iload_n 2, 1) := by decide +kernel
theorem dX10_writtenMany_5 : decode (am_code 137) 5 = .ok (.aload_n 0, 1) := by decide +kernel
theorem dX10_writtenMany_6 : decode (am_code 137) 6 = .ok (.getfield 129, 3) := by decide +kernel
theorem dX10_writtenMany_9 : decode (am_code 137) 9 = .ok (.if_icmp .ge 27, 3) := by decide +kernel
theorem dX10_writtenMany_12 : decode (am_code 137) 12 = .ok (.iload_n 1, 1) := by decide +kernel
theorem dX10_writtenMany_13 : decode (am_code 137) 13 = .ok (.aload_n 0, 1) := by decide +kernel
theorem dX10_writtenMany_14 : decode (am_code 137) 14 = .ok (.getfield 34, 3) := by decide +kernel
theorem dX10_writtenMany_17 : decode (am_code 137) 17 = .ok (.iload_n 2, 1) := by decide +kernel
theorem dX10_writtenMany_18 : decode (am_code 137) 18 = .ok (.iaload, 1) := by decide +kernel
theorem dX10_writtenMany_19 : decode (am_code 137) 19 = .ok (.iconst (-1), 1) := by decide +kernel
theorem dX10_writtenMany_20 : decode (am_code 137) 20 = .ok (.if_icmp .ne 7, 3) := by decide +kernel
theorem dX10_writtenMany_23 : decode (am_code 137) 23 = .ok (.iconst 0, 1) := by decide +kernel
theorem dX10_writtenMany_24 : decode (am_code 137) 24 = .ok (.goto 4, 3) := by decide +kernel
theorem dX10_writtenMany_27 : decode (am_code 137) 27 = .ok (.iconst 1, 1) := by decide +kernel
theorem dX10_writtenMany_28 : decode (am_code 137) 28 = .ok (.iadd, 1) := by decide +kernel
theorem dX10_writtenMany_29 : decode (am_code 137) 29 = .ok (.istore_n 1, 1) := by decide +kernel
theorem dX10_writtenMany_30 : decode (am_code 137) 30 = .ok (.iinc 2 1, 3) := by decide +kernel
theorem dX10_writtenMany_33 : decode (am_code 137) 33 = .ok (.goto (-29), 3) := by decide +kernel
theorem dX10_writtenMany_36 : decode (am_code 137) 36 = .ok (.iload_n 1, 1) := by decide +kernel
theorem dX10_writtenMany_37 : decode (am_code 137) 37 = .ok (.ireturn, 1) := by decide +kernel
theorem r137_0 (d : Nat) (ls st : List Value) (σ : am_St) (τ : Int64) : am_run d 137 0 ls st σ τ = am_run d 137 1 ls (.int 0 :: st) σ τ := rr_iconst 0 dX10_writtenMany_0 (by decide)
theorem r137_1 (d : Nat) (st : List Value) (σ : am_St) (τ : Int64) (x : Int32) (v0 v1 v2 : Value) : am_run d 137 1 [v0, v1, v2] (.int x :: st) σ τ = am_run d 137 2 [am_nl v0, .int x, v2] st σ τ := rr_istore_n _ dX10_writtenMany_1 (by decide) (by first | rfl | (by_cases h : v0.category = 2 <;> simp [am_set1, am_nl, h]))
theorem r137_2 (d : Nat) (ls st : List Value) (σ : am_St) (τ : Int64) : am_run d 137 2 ls st σ τ = am_run d 137 3 ls (.int 0 :: st) σ τ := rr_iconst 0 dX10_writtenMany_2 (by decide)
theorem r137_3 (d : Nat) (st : List Value) (σ : am_St) (τ : Int64) (x : Int32) (v0 v1 v2 : Value) : am_run d 137 3 [v0, v1, v2] (.int x :: st) σ τ = am_run d 137 4 [v0, am_nl v1, .int x] st σ τ := rr_istore_n _ dX10_writtenMany_3 (by decide) (by first | rfl | (by_cases h : v1.category = 2 <;> simp [am_set1, am_nl, h]))
theorem r137_4 (d : Nat) (st : List Value) (σ : am_St) (τ : Int64) (x : Int32) (v0 v1 : Value) : am_run d 137 4 [v0, v1, .int x] st σ τ = am_run d 137 5 [v0, v1, .int x] (.int x :: st) σ τ := rr_iload_n dX10_writtenMany_4 rfl
theorem r137_5 (d : Nat) (st : List Value) (σ : am_St) (τ : Int64) (x : Nat) (v1 v2 : Value) : am_run d 137 5 [.ref x, v1, v2] st σ τ = am_run d 137 6 [.ref x, v1, v2] (.ref x :: st) σ τ := rr_aload_n dX10_writtenMany_5 rfl
theorem r137_6 (d : Nat) (ls st : List Value) (σ : am_St) (τ : Int64) (k : Nat) : am_run d 137 6 ls (.ref k :: st) σ τ = am_gf k 10 6 σ τ (fun v => am_run d 137 9 ls (v :: st) σ τ) := rr_getf dX10_writtenMany_6 (by decide +kernel)
theorem r137_9 (d : Nat) (ls st : List Value) (σ : am_St) (τ : Int64) (x y : Int32) : am_run d 137 9 ls (.int y :: .int x :: st) σ τ = if y ≤ x then am_run d 137 36 ls st σ τ else am_run d 137 12 ls st σ τ := (rr_icmp 36 dX10_writtenMany_9 (by decide)).trans am_sel
theorem r137_12 (d : Nat) (st : List Value) (σ : am_St) (τ : Int64) (x : Int32) (v0 v2 : Value) : am_run d 137 12 [v0, .int x, v2] st σ τ = am_run d 137 13 [v0, .int x, v2] (.int x :: st) σ τ := rr_iload_n dX10_writtenMany_12 rfl
theorem r137_13 (d : Nat) (st : List Value) (σ : am_St) (τ : Int64) (x : Nat) (v1 v2 : Value) : am_run d 137 13 [.ref x, v1, v2] st σ τ = am_run d 137 14 [.ref x, v1, v2] (.ref x :: st) σ τ := rr_aload_n dX10_writtenMany_13 rfl
theorem r137_14 (d : Nat) (ls st : List Value) (σ : am_St) (τ : Int64) (k : Nat) : am_run d 137 14 ls (.ref k :: st) σ τ = am_gf k 10 13 σ τ (fun v => am_run d 137 17 ls (v :: st) σ τ) := rr_getf dX10_writtenMany_14 (by decide +kernel)
theorem r137_17 (d : Nat) (st : List Value) (σ : am_St) (τ : Int64) (x : Int32) (v0 v1 : Value) : am_run d 137 17 [v0, v1, .int x] st σ τ = am_run d 137 18 [v0, v1, .int x] (.int x :: st) σ τ := rr_iload_n dX10_writtenMany_17 rfl
theorem r137_18 (d : Nat) (ls st : List Value) (σ : am_St) (τ : Int64) (i : Int32) (k : Nat) : am_run d 137 18 ls (.int i :: .ref k :: st) σ τ = am_ai false k i (fun j => am_run d 137 19 ls (.int (σ k j) :: st) σ τ) := rr_iald dX10_writtenMany_18
theorem r137_19 (d : Nat) (ls st : List Value) (σ : am_St) (τ : Int64) : am_run d 137 19 ls st σ τ = am_run d 137 20 ls (.int (-1) :: st) σ τ := rr_iconst (-1) dX10_writtenMany_19 (by decide)
theorem r137_20 (d : Nat) (ls st : List Value) (σ : am_St) (τ : Int64) (x y : Int32) : am_run d 137 20 ls (.int y :: .int x :: st) σ τ = if x = y then am_run d 137 23 ls st σ τ else am_run d 137 27 ls st σ τ := (rr_icmp 27 dX10_writtenMany_20 (by decide)).trans am_seln
theorem r137_23 (d : Nat) (ls st : List Value) (σ : am_St) (τ : Int64) : am_run d 137 23 ls st σ τ = am_run d 137 24 ls (.int 0 :: st) σ τ := rr_iconst 0 dX10_writtenMany_23 (by decide)
theorem r137_24 (d : Nat) (ls st : List Value) (σ : am_St) (τ : Int64) : am_run d 137 24 ls st σ τ = am_run d 137 28 ls st σ τ := rr_goto 28 dX10_writtenMany_24 (by decide)
theorem r137_27 (d : Nat) (ls st : List Value) (σ : am_St) (τ : Int64) : am_run d 137 27 ls st σ τ = am_run d 137 28 ls (.int 1 :: st) σ τ := rr_iconst 1 dX10_writtenMany_27 (by decide)
theorem r137_28 (d : Nat) (ls st : List Value) (σ : am_St) (τ : Int64) (x y : Int32) : am_run d 137 28 ls (.int y :: .int x :: st) σ τ = am_run d 137 29 ls (.int (x + y) :: st) σ τ := rr_iadd dX10_writtenMany_28
theorem r137_29 (d : Nat) (st : List Value) (σ : am_St) (τ : Int64) (x : Int32) (v0 v1 v2 : Value) : am_run d 137 29 [v0, v1, v2] (.int x :: st) σ τ = am_run d 137 30 [am_nl v0, .int x, v2] st σ τ := rr_istore_n _ dX10_writtenMany_29 (by decide) (by first | rfl | (by_cases h : v0.category = 2 <;> simp [am_set1, am_nl, h]))
theorem r137_30 (d : Nat) (st : List Value) (σ : am_St) (τ : Int64) (x : Int32) (v0 v1 : Value) : am_run d 137 30 [v0, v1, .int x] st σ τ = am_run d 137 33 [v0, am_nl v1, .int (x + 1)] st σ τ := rr_iinc 1 _ dX10_writtenMany_30 rfl (by decide) (by decide) (by first | rfl | (by_cases h : v1.category = 2 <;> simp [am_set1, am_nl, h]))
theorem r137_33 (d : Nat) (ls st : List Value) (σ : am_St) (τ : Int64) : am_run d 137 33 ls st σ τ = am_run d 137 4 ls st σ τ := rr_goto 4 dX10_writtenMany_33 (by decide)
theorem r137_36 (d : Nat) (st : List Value) (σ : am_St) (τ : Int64) (x : Int32) (v0 v2 : Value) : am_run d 137 36 [v0, .int x, v2] st σ τ = am_run d 137 37 [v0, .int x, v2] (.int x :: st) σ τ := rr_iload_n dX10_writtenMany_36 rfl
theorem r137_37 (d : Nat) (ls : List Value) (σ : am_St) (τ : Int64) (x : Int32) : am_run d 137 37 ls [.int x] σ τ = some (some (.int x), σ, τ) := rr_iret dX10_writtenMany_37 rfl
theorem dX10_countOf_0 : decode (am_code 138) 0 = .ok (.iload_n 1, 1) := by decide +kernel
theorem dX10_countOf_1 : decode (am_code 138) 1 = .ok (.tableswitch 78 0 6 #[43, 48, 53, 58, 63, 68, 73], 43) := by decide +kernel
theorem dX10_countOf_44 : decode (am_code 138) 44 = .ok (.aload_n 0, 1) := by decide +kernel
theorem dX10_countOf_45 : decode (am_code 138) 45 = .ok (.getfield 129, 3) := by decide +kernel
theorem dX10_countOf_48 : decode (am_code 138) 48 = .ok (.ireturn, 1) := by decide +kernel
theorem dX10_countOf_49 : decode (am_code 138) 49 = .ok (.aload_n 0, 1) := by decide +kernel
theorem dX10_countOf_50 : decode (am_code 138) 50 = .ok (.getfield 149, 3) := by decide +kernel
theorem dX10_countOf_53 : decode (am_code 138) 53 = .ok (.ireturn, 1) := by decide +kernel
theorem dX10_countOf_54 : decode (am_code 138) 54 = .ok (.aload_n 0, 1) := by decide +kernel
theorem dX10_countOf_55 : decode (am_code 138) 55 = .ok (.invokevirtual 179, 3) := by decide +kernel
theorem dX10_countOf_58 : decode (am_code 138) 58 = .ok (.ireturn, 1) := by decide +kernel
theorem dX10_countOf_59 : decode (am_code 138) 59 = .ok (.aload_n 0, 1) := by decide +kernel
theorem dX10_countOf_60 : decode (am_code 138) 60 = .ok (.invokevirtual 240, 3) := by decide +kernel
theorem dX10_countOf_63 : decode (am_code 138) 63 = .ok (.ireturn, 1) := by decide +kernel
theorem dX10_countOf_64 : decode (am_code 138) 64 = .ok (.aload_n 0, 1) := by decide +kernel
theorem dX10_countOf_65 : decode (am_code 138) 65 = .ok (.getfield 98, 3) := by decide +kernel
theorem dX10_countOf_68 : decode (am_code 138) 68 = .ok (.ireturn, 1) := by decide +kernel
theorem dX10_countOf_69 : decode (am_code 138) 69 = .ok (.aload_n 0, 1) := by decide +kernel
theorem dX10_countOf_70 : decode (am_code 138) 70 = .ok (.getfield 124, 3) := by decide +kernel
theorem dX10_countOf_73 : decode (am_code 138) 73 = .ok (.ireturn, 1) := by decide +kernel
theorem dX10_countOf_74 : decode (am_code 138) 74 = .ok (.aload_n 0, 1) := by decide +kernel
theorem dX10_countOf_75 : decode (am_code 138) 75 = .ok (.getfield 191, 3) := by decide +kernel
theorem dX10_countOf_78 : decode (am_code 138) 78 = .ok (.ireturn, 1) := by decide +kernel
theorem dX10_countOf_79 : decode (am_code 138) 79 = .ok (.bipush (-102), 2) := by decide +kernel
theorem dX10_countOf_81 : decode (am_code 138) 81 = .ok (.ireturn, 1) := by decide +kernel
theorem r138_0 (d : Nat) (st : List Value) (σ : am_St) (τ : Int64) (x : Int32) (v0 : Value) : am_run d 138 0 [v0, .int x] st σ τ = am_run d 138 1 [v0, .int x] (.int x :: st) σ τ := rr_iload_n dX10_countOf_0 rfl
theorem r138_1 (d : Nat) (ls st : List Value) (σ : am_St) (τ : Int64) (x : Int32) : am_run d 138 1 ls (.int x :: st) σ τ = am_run d 138 (am_sw x 0 [44, 49, 54, 59, 64, 69, 74] 79) ls st σ τ := rr_tsw [44, 49, 54, 59, 64, 69, 74] 79 dX10_countOf_1 (by decide) (by decide) (by decide)
theorem r138_44 (d : Nat) (st : List Value) (σ : am_St) (τ : Int64) (x : Nat) (v1 : Value) : am_run d 138 44 [.ref x, v1] st σ τ = am_run d 138 45 [.ref x, v1] (.ref x :: st) σ τ := rr_aload_n dX10_countOf_44 rfl
theorem r138_45 (d : Nat) (ls st : List Value) (σ : am_St) (τ : Int64) (k : Nat) : am_run d 138 45 ls (.ref k :: st) σ τ = am_gf k 10 6 σ τ (fun v => am_run d 138 48 ls (v :: st) σ τ) := rr_getf dX10_countOf_45 (by decide +kernel)
theorem r138_48 (d : Nat) (ls : List Value) (σ : am_St) (τ : Int64) (x : Int32) : am_run d 138 48 ls [.int x] σ τ = some (some (.int x), σ, τ) := rr_iret dX10_countOf_48 rfl
theorem r138_49 (d : Nat) (st : List Value) (σ : am_St) (τ : Int64) (x : Nat) (v1 : Value) : am_run d 138 49 [.ref x, v1] st σ τ = am_run d 138 50 [.ref x, v1] (.ref x :: st) σ τ := rr_aload_n dX10_countOf_49 rfl
theorem r138_50 (d : Nat) (ls st : List Value) (σ : am_St) (τ : Int64) (k : Nat) : am_run d 138 50 ls (.ref k :: st) σ τ = am_gf k 10 7 σ τ (fun v => am_run d 138 53 ls (v :: st) σ τ) := rr_getf dX10_countOf_50 (by decide +kernel)
theorem r138_53 (d : Nat) (ls : List Value) (σ : am_St) (τ : Int64) (x : Int32) : am_run d 138 53 ls [.int x] σ τ = some (some (.int x), σ, τ) := rr_iret dX10_countOf_53 rfl
theorem r138_54 (d : Nat) (st : List Value) (σ : am_St) (τ : Int64) (x : Nat) (v1 : Value) : am_run d 138 54 [.ref x, v1] st σ τ = am_run d 138 55 [.ref x, v1] (.ref x :: st) σ τ := rr_aload_n dX10_countOf_54 rfl
theorem r138_55 (d : Nat) (ls st : List Value) (σ : am_St) (τ : Int64) (k : Nat)  (hk : am_kc k = 10) (hc : am_cats st ≤ 8) : am_run (d + 1) 138 55 ls (.ref k :: st) σ τ = (am_call d 109 [.ref k] σ τ).bind (fun r => am_run (d + 1) 138 58 ls (r.1.toList ++ st) r.2.1 r.2.2) := rr_invv [] dX10_countOf_55 (by decide +kernel) (by decide) rfl (Nat.le_of_ble_eq_true rfl) hk hc
theorem r138_58 (d : Nat) (ls : List Value) (σ : am_St) (τ : Int64) (x : Int32) : am_run d 138 58 ls [.int x] σ τ = some (some (.int x), σ, τ) := rr_iret dX10_countOf_58 rfl
theorem r138_59 (d : Nat) (st : List Value) (σ : am_St) (τ : Int64) (x : Nat) (v1 : Value) : am_run d 138 59 [.ref x, v1] st σ τ = am_run d 138 60 [.ref x, v1] (.ref x :: st) σ τ := rr_aload_n dX10_countOf_59 rfl
theorem r138_60 (d : Nat) (ls st : List Value) (σ : am_St) (τ : Int64) (k : Nat)  (hk : am_kc k = 10) (hc : am_cats st ≤ 8) : am_run (d + 1) 138 60 ls (.ref k :: st) σ τ = (am_call d 137 [.ref k] σ τ).bind (fun r => am_run (d + 1) 138 63 ls (r.1.toList ++ st) r.2.1 r.2.2) := rr_invv [] dX10_countOf_60 (by decide +kernel) (by decide) rfl (Nat.le_of_ble_eq_true rfl) hk hc
theorem r138_63 (d : Nat) (ls : List Value) (σ : am_St) (τ : Int64) (x : Int32) : am_run d 138 63 ls [.int x] σ τ = some (some (.int x), σ, τ) := rr_iret dX10_countOf_63 rfl
theorem r138_64 (d : Nat) (st : List Value) (σ : am_St) (τ : Int64) (x : Nat) (v1 : Value) : am_run d 138 64 [.ref x, v1] st σ τ = am_run d 138 65 [.ref x, v1] (.ref x :: st) σ τ := rr_aload_n dX10_countOf_64 rfl
theorem r138_65 (d : Nat) (ls st : List Value) (σ : am_St) (τ : Int64) (k : Nat) : am_run d 138 65 ls (.ref k :: st) σ τ = am_gf k 10 1 σ τ (fun v => am_run d 138 68 ls (v :: st) σ τ) := rr_getf dX10_countOf_65 (by decide +kernel)
theorem r138_68 (d : Nat) (ls : List Value) (σ : am_St) (τ : Int64) (x : Int32) : am_run d 138 68 ls [.int x] σ τ = some (some (.int x), σ, τ) := rr_iret dX10_countOf_68 rfl
theorem r138_69 (d : Nat) (st : List Value) (σ : am_St) (τ : Int64) (x : Nat) (v1 : Value) : am_run d 138 69 [.ref x, v1] st σ τ = am_run d 138 70 [.ref x, v1] (.ref x :: st) σ τ := rr_aload_n dX10_countOf_69 rfl
theorem r138_70 (d : Nat) (ls st : List Value) (σ : am_St) (τ : Int64) (k : Nat) : am_run d 138 70 ls (.ref k :: st) σ τ = am_gf k 10 4 σ τ (fun v => am_run d 138 73 ls (v :: st) σ τ) := rr_getf dX10_countOf_70 (by decide +kernel)
theorem r138_73 (d : Nat) (ls : List Value) (σ : am_St) (τ : Int64) (x : Int32) : am_run d 138 73 ls [.int x] σ τ = some (some (.int x), σ, τ) := rr_iret dX10_countOf_73 rfl
theorem r138_74 (d : Nat) (st : List Value) (σ : am_St) (τ : Int64) (x : Nat) (v1 : Value) : am_run d 138 74 [.ref x, v1] st σ τ = am_run d 138 75 [.ref x, v1] (.ref x :: st) σ τ := rr_aload_n dX10_countOf_74 rfl
theorem r138_75 (d : Nat) (ls st : List Value) (σ : am_St) (τ : Int64) (k : Nat) : am_run d 138 75 ls (.ref k :: st) σ τ = am_gf k 10 21 σ τ (fun v => am_run d 138 78 ls (v :: st) σ τ) := rr_getf dX10_countOf_75 (by decide +kernel)
theorem r138_78 (d : Nat) (ls : List Value) (σ : am_St) (τ : Int64) (x : Int32) : am_run d 138 78 ls [.int x] σ τ = some (some (.int x), σ, τ) := rr_iret dX10_countOf_78 rfl
theorem r138_79 (d : Nat) (ls st : List Value) (σ : am_St) (τ : Int64) : am_run d 138 79 ls st σ τ = am_run d 138 81 ls (.int (-102) :: st) σ τ := rr_bipush (-102) dX10_countOf_79 (by decide)
theorem r138_81 (d : Nat) (ls : List Value) (σ : am_St) (τ : Int64) (x : Int32) : am_run d 138 81 ls [.int x] σ τ = some (some (.int x), σ, τ) := rr_iret dX10_countOf_81 rfl
theorem dX10_count_0 : decode (am_code 139) 0 = .ok (.aload_n 0, 1) := by decide +kernel
theorem dX10_count_1 : decode (am_code 139) 1 = .ok (.iload_n 1, 1) := by decide +kernel
theorem dX10_count_2 : decode (am_code 139) 2 = .ok (.invokevirtual 243, 3) := by decide +kernel
theorem dX10_count_5 : decode (am_code 139) 5 = .ok (.ireturn, 1) := by decide +kernel
theorem r139_0 (d : Nat) (st : List Value) (σ : am_St) (τ : Int64) (x : Nat) (v1 : Value) : am_run d 139 0 [.ref x, v1] st σ τ = am_run d 139 1 [.ref x, v1] (.ref x :: st) σ τ := rr_aload_n dX10_count_0 rfl
theorem r139_1 (d : Nat) (st : List Value) (σ : am_St) (τ : Int64) (x : Int32) (v0 : Value) : am_run d 139 1 [v0, .int x] st σ τ = am_run d 139 2 [v0, .int x] (.int x :: st) σ τ := rr_iload_n dX10_count_1 rfl
theorem r139_2 (d : Nat) (ls st : List Value) (σ : am_St) (τ : Int64) (k : Nat) (a0 : Int32) (hk : am_kc k = 10) (hc : am_cats st ≤ 8) : am_run (d + 1) 139 2 ls (.int a0 :: .ref k :: st) σ τ = (am_call d 138 [.ref k, .int a0] σ τ).bind (fun r => am_run (d + 1) 139 5 ls (r.1.toList ++ st) r.2.1 r.2.2) := rr_invv [.int a0] dX10_count_2 (by decide +kernel) (by decide) rfl (Nat.le_of_ble_eq_true rfl) hk hc
theorem r139_5 (d : Nat) (ls : List Value) (σ : am_St) (τ : Int64) (x : Int32) : am_run d 139 5 ls [.int x] σ τ = some (some (.int x), σ, τ) := rr_iret dX10_count_5 rfl
theorem dX10_say_0 : decode (am_code 140) 0 = .ok (.aload_n 0, 1) := by decide +kernel
theorem dX10_say_1 : decode (am_code 140) 1 = .ok (.ldc2_w 246, 3) := by decide +kernel
theorem dX10_say_4 : decode (am_code 140) 4 = .ok (.aload_n 0, 1) := by decide +kernel
theorem dX10_say_5 : decode (am_code 140) 5 = .ok (.getfield 248, 3) := by decide +kernel
theorem dX10_say_8 : decode (am_code 140) 8 = .ok (.lmul, 1) := by decide +kernel
theorem dX10_say_9 : decode (am_code 140) 9 = .ok (.lload_n 1, 1) := by decide +kernel
theorem dX10_say_10 : decode (am_code 140) 10 = .ok (.ladd, 1) := by decide +kernel
theorem dX10_say_11 : decode (am_code 140) 11 = .ok (.putfield 248, 3) := by decide +kernel
theorem dX10_say_14 : decode (am_code 140) 14 = .ok (.return_, 1) := by decide +kernel
theorem r140_0 (d : Nat) (st : List Value) (σ : am_St) (τ : Int64) (x : Nat) (v1 v2 : Value) : am_run d 140 0 [.ref x, v1, v2] st σ τ = am_run d 140 1 [.ref x, v1, v2] (.ref x :: st) σ τ := rr_aload_n dX10_say_0 rfl
theorem r140_1 (d : Nat) (ls st : List Value) (σ : am_St) (τ : Int64) : am_run d 140 1 ls st σ τ = am_run d 140 4 ls (.long 31 :: st) σ τ := rr_ldc2 31 dX10_say_1 (by decide +kernel)
theorem r140_4 (d : Nat) (st : List Value) (σ : am_St) (τ : Int64) (x : Nat) (v1 v2 : Value) : am_run d 140 4 [.ref x, v1, v2] st σ τ = am_run d 140 5 [.ref x, v1, v2] (.ref x :: st) σ τ := rr_aload_n dX10_say_4 rfl
theorem r140_5 (d : Nat) (ls st : List Value) (σ : am_St) (τ : Int64) (k : Nat) : am_run d 140 5 ls (.ref k :: st) σ τ = am_gf k 10 35 σ τ (fun v => am_run d 140 8 ls (v :: st) σ τ) := rr_getf dX10_say_5 (by decide +kernel)
theorem r140_8 (d : Nat) (ls st : List Value) (σ : am_St) (τ : Int64) (x y : Int64) : am_run d 140 8 ls (.long y :: .long x :: st) σ τ = am_run d 140 9 ls (.long (x * y) :: st) σ τ := rr_lmul dX10_say_8
theorem r140_9 (d : Nat) (st : List Value) (σ : am_St) (τ : Int64) (x : Int64) (v0 v2 : Value) : am_run d 140 9 [v0, .long x, v2] st σ τ = am_run d 140 10 [v0, .long x, v2] (.long x :: st) σ τ := rr_lload_n dX10_say_9 rfl
theorem r140_10 (d : Nat) (ls st : List Value) (σ : am_St) (τ : Int64) (x y : Int64) : am_run d 140 10 ls (.long y :: .long x :: st) σ τ = am_run d 140 11 ls (.long (x + y) :: st) σ τ := rr_ladd dX10_say_10
theorem r140_11 (d : Nat) (ls st : List Value) (σ : am_St) (τ : Int64) (x : Int64) : am_run d 140 11 ls (.long x :: .ref 42 :: st) σ τ = am_run d 140 14 ls st σ x := rr_putl dX10_say_11 (by decide +kernel)
theorem r140_14 (d : Nat) (ls : List Value) (σ : am_St) (τ : Int64) : am_run d 140 14 ls [] σ τ = some (none, σ, τ) := rr_vret dX10_say_14 rfl
theorem dX10_digest_0 : decode (am_code 141) 0 = .ok (.aload_n 0, 1) := by decide +kernel
theorem dX10_digest_1 : decode (am_code 141) 1 = .ok (.ldc2_w 252, 3) := by decide +kernel
theorem dX10_digest_4 : decode (am_code 141) 4 = .ok (.putfield 248, 3) := by decide +kernel
theorem dX10_digest_7 : decode (am_code 141) 7 = .ok (.iconst 0, 1) := by decide +kernel
theorem dX10_digest_8 : decode (am_code 141) 8 = .ok (.istore_n 1, 1) := by decide +kernel
theorem dX10_digest_9 : decode (am_code 141) 9 = .ok (.iload_n 1, 1) := by decide +kernel
theorem dX10_digest_10 : decode (am_code 141) 10 = .ok (.iconst 4, 1) := by decide +kernel
theorem dX10_digest_11 : decode (am_code 141) 11 = .ok (.if_icmp .ge 20, 3) := by decide +kernel
theorem dX10_digest_14 : decode (am_code 141) 14 = .ok (.aload_n 0, 1) := by decide +kernel
theorem dX10_digest_15 : decode (am_code 141) 15 = .ok (.aload_n 0, 1) := by decide +kernel
theorem dX10_digest_16 : decode (am_code 141) 16 = .ok (.getfield 13, 3) := by decide +kernel
theorem dX10_digest_19 : decode (am_code 141) 19 = .ok (.iload_n 1, 1) := by decide +kernel
theorem dX10_digest_20 : decode (am_code 141) 20 = .ok (.iaload, 1) := by decide +kernel
theorem dX10_digest_21 : decode (am_code 141) 21 = .ok (.i2l, 1) := by decide +kernel
theorem dX10_digest_22 : decode (am_code 141) 22 = .ok (.invokevirtual 254, 3) := by decide +kernel
theorem dX10_digest_25 : decode (am_code 141) 25 = .ok (.iinc 1 1, 3) := by decide +kernel
theorem dX10_digest_28 : decode (am_code 141) 28 = .ok (.goto (-19), 3) := by decide +kernel
theorem dX10_digest_31 : decode (am_code 141) 31 = .ok (.aload_n 0, 1) := by decide +kernel
theorem dX10_digest_32 : decode (am_code 141) 32 = .ok (.invokevirtual 231, 3) := by decide +kernel
theorem dX10_digest_35 : decode (am_code 141) 35 = .ok (.istore_n 1, 1) := by decide +kernel
theorem dX10_digest_36 : decode (am_code 141) 36 = .ok (.aload_n 0, 1) := by decide +kernel
theorem dX10_digest_37 : decode (am_code 141) 37 = .ok (.invokevirtual 198, 3) := by decide +kernel
theorem dX10_digest_40 : decode (am_code 141) 40 = .ok (.istore_n 2, 1) := by decide +kernel
theorem dX10_digest_41 : decode (am_code 141) 41 = .ok (.iconst 0, 1) := by decide +kernel
theorem dX10_digest_42 : decode (am_code 141) 42 = .ok (.istore_n 3, 1) := by decide +kernel
theorem dX10_digest_43 : decode (am_code 141) 43 = .ok (.iload_n 3, 1) := by decide +kernel
theorem dX10_digest_44 : decode (am_code 141) 44 = .ok (.aload_n 0, 1) := by decide +kernel
theorem dX10_digest_45 : decode (am_code 141) 45 = .ok (.getfield 129, 3) := by decide +kernel
theorem dX10_digest_48 : decode (am_code 141) 48 = .ok (.if_icmp .ge 68, 3) := by decide +kernel
theorem dX10_digest_51 : decode (am_code 141) 51 = .ok (.iconst 0, 1) := by decide +kernel
theorem dX10_digest_52 : decode (am_code 141) 52 = .ok (.istore 4, 2) := by decide +kernel
theorem dX10_digest_54 : decode (am_code 141) 54 = .ok (.iload 4, 2) := by decide +kernel
theorem dX10_digest_56 : decode (am_code 141) 56 = .ok (.bipush 8, 2) := by decide +kernel
theorem dX10_digest_58 : decode (am_code 141) 58 = .ok (.if_icmp .ge 21, 3) := by decide +kernel
theorem dX10_digest_61 : decode (am_code 141) 61 = .ok (.aload_n 0, 1) := by decide +kernel
theorem dX10_digest_62 : decode (am_code 141) 62 = .ok (.aload_n 0, 1) := by decide +kernel
theorem dX10_digest_63 : decode (am_code 141) 63 = .ok (.iload_n 3, 1) := by decide +kernel
theorem dX10_digest_64 : decode (am_code 141) 64 = .ok (.iload 4, 2) := by decide +kernel
theorem dX10_digest_66 : decode (am_code 141) 66 = .ok (.invokevirtual 174, 3) := by decide +kernel
theorem dX10_digest_69 : decode (am_code 141) 69 = .ok (.i2l, 1) := by decide +kernel
theorem dX10_digest_70 : decode (am_code 141) 70 = .ok (.invokevirtual 254, 3) := by decide +kernel
theorem dX10_digest_73 : decode (am_code 141) 73 = .ok (.iinc 4 1, 3) := by decide +kernel
theorem dX10_digest_76 : decode (am_code 141) 76 = .ok (.goto (-22), 3) := by decide +kernel
theorem dX10_digest_79 : decode (am_code 141) 79 = .ok (.aload_n 0, 1) := by decide +kernel
theorem dX10_digest_80 : decode (am_code 141) 80 = .ok (.aload_n 0, 1) := by decide +kernel
theorem dX10_digest_81 : decode (am_code 141) 81 = .ok (.iload_n 3, 1) := by decide +kernel
theorem dX10_digest_82 : decode (am_code 141) 82 = .ok (.invokevirtual 218, 3) := by decide +kernel
theorem dX10_digest_85 : decode (am_code 141) 85 = .ok (.i2l, 1) := by decide +kernel
theorem dX10_digest_86 : decode (am_code 141) 86 = .ok (.invokevirtual 254, 3) := by decide +kernel
theorem dX10_digest_89 : decode (am_code 141) 89 = .ok (.aload_n 0, 1) := by decide +kernel
theorem dX10_digest_90 : decode (am_code 141) 90 = .ok (.aload_n 0, 1) := by decide +kernel
theorem dX10_digest_91 : decode (am_code 141) 91 = .ok (.iload_n 3, 1) := by decide +kernel
theorem dX10_digest_92 : decode (am_code 141) 92 = .ok (.invokevirtual 201, 3) := by decide +kernel
theorem dX10_digest_95 : decode (am_code 141) 95 = .ok (.i2l, 1) := by decide +kernel
theorem dX10_digest_96 : decode (am_code 141) 96 = .ok (.invokevirtual 254, 3) := by decide +kernel
theorem dX10_digest_99 : decode (am_code 141) 99 = .ok (.aload_n 0, 1) := by decide +kernel
theorem dX10_digest_100 : decode (am_code 141) 100 = .ok (.aload_n 0, 1) := by decide +kernel
theorem dX10_digest_101 : decode (am_code 141) 101 = .ok (.getfield 83, 3) := by decide +kernel
theorem dX10_digest_104 : decode (am_code 141) 104 = .ok (.iload_n 3, 1) := by decide +kernel
theorem dX10_digest_105 : decode (am_code 141) 105 = .ok (.iaload, 1) := by decide +kernel
theorem dX10_digest_106 : decode (am_code 141) 106 = .ok (.i2l, 1) := by decide +kernel
theorem dX10_digest_107 : decode (am_code 141) 107 = .ok (.invokevirtual 254, 3) := by decide +kernel
theorem dX10_digest_110 : decode (am_code 141) 110 = .ok (.iinc 3 1, 3) := by decide +kernel
theorem dX10_digest_113 : decode (am_code 141) 113 = .ok (.goto (-70), 3) := by decide +kernel
theorem dX10_digest_116 : decode (am_code 141) 116 = .ok (.aload_n 0, 1) := by decide +kernel
theorem dX10_digest_117 : decode (am_code 141) 117 = .ok (.aload_n 0, 1) := by decide +kernel
theorem dX10_digest_118 : decode (am_code 141) 118 = .ok (.iconst 0, 1) := by decide +kernel
theorem dX10_digest_119 : decode (am_code 141) 119 = .ok (.invokevirtual 185, 3) := by decide +kernel
theorem dX10_digest_122 : decode (am_code 141) 122 = .ok (.i2l, 1) := by decide +kernel
theorem dX10_digest_123 : decode (am_code 141) 123 = .ok (.invokevirtual 254, 3) := by decide +kernel
theorem dX10_digest_126 : decode (am_code 141) 126 = .ok (.aload_n 0, 1) := by decide +kernel
theorem dX10_digest_127 : decode (am_code 141) 127 = .ok (.aload_n 0, 1) := by decide +kernel
theorem dX10_digest_128 : decode (am_code 141) 128 = .ok (.iconst 1, 1) := by decide +kernel
theorem dX10_digest_129 : decode (am_code 141) 129 = .ok (.invokevirtual 185, 3) := by decide +kernel
theorem dX10_digest_132 : decode (am_code 141) 132 = .ok (.i2l, 1) := by decide +kernel
theorem dX10_digest_133 : decode (am_code 141) 133 = .ok (.invokevirtual 254, 3) := by decide +kernel
theorem dX10_digest_136 : decode (am_code 141) 136 = .ok (.aload_n 0, 1) := by decide +kernel
theorem dX10_digest_137 : decode (am_code 141) 137 = .ok (.iload_n 2, 1) := by decide +kernel
theorem dX10_digest_138 : decode (am_code 141) 138 = .ok (.i2l, 1) := by decide +kernel
theorem dX10_digest_139 : decode (am_code 141) 139 = .ok (.invokevirtual 254, 3) := by decide +kernel
theorem dX10_digest_142 : decode (am_code 141) 142 = .ok (.aload_n 0, 1) := by decide +kernel
theorem dX10_digest_143 : decode (am_code 141) 143 = .ok (.invokevirtual 208, 3) := by decide +kernel
theorem dX10_digest_146 : decode (am_code 141) 146 = .ok (.iconst 0, 1) := by decide +kernel
theorem dX10_digest_147 : decode (am_code 141) 147 = .ok (.istore_n 3, 1) := by decide +kernel
theorem dX10_digest_148 : decode (am_code 141) 148 = .ok (.iload_n 3, 1) := by decide +kernel
theorem dX10_digest_149 : decode (am_code 141) 149 = .ok (.iconst 4, 1) := by decide +kernel
theorem dX10_digest_150 : decode (am_code 141) 150 = .ok (.if_icmp .ge 20, 3) := by decide +kernel
theorem dX10_digest_153 : decode (am_code 141) 153 = .ok (.aload_n 0, 1) := by decide +kernel
theorem dX10_digest_154 : decode (am_code 141) 154 = .ok (.aload_n 0, 1) := by decide +kernel
theorem dX10_digest_155 : decode (am_code 141) 155 = .ok (.getfield 70, 3) := by decide +kernel
theorem dX10_digest_158 : decode (am_code 141) 158 = .ok (.iload_n 3, 1) := by decide +kernel
theorem dX10_digest_159 : decode (am_code 141) 159 = .ok (.iaload, 1) := by decide +kernel
theorem dX10_digest_160 : decode (am_code 141) 160 = .ok (.i2l, 1) := by decide +kernel
theorem dX10_digest_161 : decode (am_code 141) 161 = .ok (.invokevirtual 254, 3) := by decide +kernel
theorem dX10_digest_164 : decode (am_code 141) 164 = .ok (.iinc 3 1, 3) := by decide +kernel
theorem dX10_digest_167 : decode (am_code 141) 167 = .ok (.goto (-19), 3) := by decide +kernel
theorem dX10_digest_170 : decode (am_code 141) 170 = .ok (.iconst 0, 1) := by decide +kernel
theorem dX10_digest_171 : decode (am_code 141) 171 = .ok (.istore_n 3, 1) := by decide +kernel
theorem dX10_digest_172 : decode (am_code 141) 172 = .ok (.iload_n 3, 1) := by decide +kernel
theorem dX10_digest_173 : decode (am_code 141) 173 = .ok (.bipush 6, 2) := by decide +kernel
theorem dX10_digest_175 : decode (am_code 141) 175 = .ok (.if_icmp .ge 19, 3) := by decide +kernel
theorem dX10_digest_178 : decode (am_code 141) 178 = .ok (.aload_n 0, 1) := by decide +kernel
theorem dX10_digest_179 : decode (am_code 141) 179 = .ok (.aload_n 0, 1) := by decide +kernel
theorem dX10_digest_180 : decode (am_code 141) 180 = .ok (.iload_n 3, 1) := by decide +kernel
theorem dX10_digest_181 : decode (am_code 141) 181 = .ok (.invokevirtual 234, 3) := by decide +kernel
theorem dX10_digest_184 : decode (am_code 141) 184 = .ok (.i2l, 1) := by decide +kernel
theorem dX10_digest_185 : decode (am_code 141) 185 = .ok (.invokevirtual 254, 3) := by decide +kernel
theorem dX10_digest_188 : decode (am_code 141) 188 = .ok (.iinc 3 1, 3) := by decide +kernel
theorem dX10_digest_191 : decode (am_code 141) 191 = .ok (.goto (-19), 3) := by decide +kernel
theorem dX10_digest_194 : decode (am_code 141) 194 = .ok (.iconst 0, 1) := by decide +kernel
theorem dX10_digest_195 : decode (am_code 141) 195 = .ok (.istore_n 3, 1) := by decide +kernel
theorem dX10_digest_196 : decode (am_code 141) 196 = .ok (.iload_n 3, 1) := by decide +kernel
theorem dX10_digest_197 : decode (am_code 141) 197 = .ok (.aload_n 0, 1) := by decide +kernel
theorem dX10_digest_198 : decode (am_code 141) 198 = .ok (.getfield 98, 3) := by decide +kernel
theorem dX10_digest_201 : decode (am_code 141) 201 = .ok (.if_icmp .ge 20, 3) := by decide +kernel
theorem dX10_digest_204 : decode (am_code 141) 204 = .ok (.aload_n 0, 1) := by decide +kernel
theorem dX10_digest_205 : decode (am_code 141) 205 = .ok (.aload_n 0, 1) := by decide +kernel
theorem dX10_digest_206 : decode (am_code 141) 206 = .ok (.getfield 7, 3) := by decide +kernel
theorem dX10_digest_209 : decode (am_code 141) 209 = .ok (.iload_n 3, 1) := by decide +kernel
theorem dX10_digest_210 : decode (am_code 141) 210 = .ok (.iaload, 1) := by decide +kernel
theorem dX10_digest_211 : decode (am_code 141) 211 = .ok (.i2l, 1) := by decide +kernel
theorem dX10_digest_212 : decode (am_code 141) 212 = .ok (.invokevirtual 254, 3) := by decide +kernel
theorem dX10_digest_215 : decode (am_code 141) 215 = .ok (.iinc 3 1, 3) := by decide +kernel
theorem dX10_digest_218 : decode (am_code 141) 218 = .ok (.goto (-22), 3) := by decide +kernel
theorem dX10_digest_221 : decode (am_code 141) 221 = .ok (.iconst 0, 1) := by decide +kernel
theorem dX10_digest_222 : decode (am_code 141) 222 = .ok (.istore_n 3, 1) := by decide +kernel
theorem dX10_digest_223 : decode (am_code 141) 223 = .ok (.iload_n 3, 1) := by decide +kernel
theorem dX10_digest_224 : decode (am_code 141) 224 = .ok (.bipush 7, 2) := by decide +kernel
theorem dX10_digest_226 : decode (am_code 141) 226 = .ok (.if_icmp .ge 19, 3) := by decide +kernel
theorem dX10_digest_229 : decode (am_code 141) 229 = .ok (.aload_n 0, 1) := by decide +kernel
theorem dX10_digest_230 : decode (am_code 141) 230 = .ok (.aload_n 0, 1) := by decide +kernel
theorem dX10_digest_231 : decode (am_code 141) 231 = .ok (.iload_n 3, 1) := by decide +kernel
theorem dX10_digest_232 : decode (am_code 141) 232 = .ok (.invokevirtual 243, 3) := by decide +kernel
theorem dX10_digest_235 : decode (am_code 141) 235 = .ok (.i2l, 1) := by decide +kernel
theorem dX10_digest_236 : decode (am_code 141) 236 = .ok (.invokevirtual 254, 3) := by decide +kernel
theorem dX10_digest_239 : decode (am_code 141) 239 = .ok (.iinc 3 1, 3) := by decide +kernel
theorem dX10_digest_242 : decode (am_code 141) 242 = .ok (.goto (-19), 3) := by decide +kernel
theorem dX10_digest_245 : decode (am_code 141) 245 = .ok (.aload_n 0, 1) := by decide +kernel
theorem dX10_digest_246 : decode (am_code 141) 246 = .ok (.getfield 248, 3) := by decide +kernel
theorem dX10_digest_249 : decode (am_code 141) 249 = .ok (.lreturn, 1) := by decide +kernel
theorem r141_0 (d : Nat) (st : List Value) (σ : am_St) (τ : Int64) (x : Nat) (v1 v2 v3 v4 : Value) : am_run d 141 0 [.ref x, v1, v2, v3, v4] st σ τ = am_run d 141 1 [.ref x, v1, v2, v3, v4] (.ref x :: st) σ τ := rr_aload_n dX10_digest_0 rfl
theorem r141_1 (d : Nat) (ls st : List Value) (σ : am_St) (τ : Int64) : am_run d 141 1 ls st σ τ = am_run d 141 4 ls (.long 601 :: st) σ τ := rr_ldc2 601 dX10_digest_1 (by decide +kernel)
theorem r141_4 (d : Nat) (ls st : List Value) (σ : am_St) (τ : Int64) (x : Int64) : am_run d 141 4 ls (.long x :: .ref 42 :: st) σ τ = am_run d 141 7 ls st σ x := rr_putl dX10_digest_4 (by decide +kernel)
theorem r141_7 (d : Nat) (ls st : List Value) (σ : am_St) (τ : Int64) : am_run d 141 7 ls st σ τ = am_run d 141 8 ls (.int 0 :: st) σ τ := rr_iconst 0 dX10_digest_7 (by decide)
theorem r141_8 (d : Nat) (st : List Value) (σ : am_St) (τ : Int64) (x : Int32) (v0 v1 v2 v3 v4 : Value) : am_run d 141 8 [v0, v1, v2, v3, v4] (.int x :: st) σ τ = am_run d 141 9 [am_nl v0, .int x, v2, v3, v4] st σ τ := rr_istore_n _ dX10_digest_8 (by decide) (by first | rfl | (by_cases h : v0.category = 2 <;> simp [am_set1, am_nl, h]))
theorem r141_9 (d : Nat) (st : List Value) (σ : am_St) (τ : Int64) (x : Int32) (v0 v2 v3 v4 : Value) : am_run d 141 9 [v0, .int x, v2, v3, v4] st σ τ = am_run d 141 10 [v0, .int x, v2, v3, v4] (.int x :: st) σ τ := rr_iload_n dX10_digest_9 rfl
theorem r141_10 (d : Nat) (ls st : List Value) (σ : am_St) (τ : Int64) : am_run d 141 10 ls st σ τ = am_run d 141 11 ls (.int 4 :: st) σ τ := rr_iconst 4 dX10_digest_10 (by decide)
theorem r141_11 (d : Nat) (ls st : List Value) (σ : am_St) (τ : Int64) (x y : Int32) : am_run d 141 11 ls (.int y :: .int x :: st) σ τ = if y ≤ x then am_run d 141 31 ls st σ τ else am_run d 141 14 ls st σ τ := (rr_icmp 31 dX10_digest_11 (by decide)).trans am_sel
theorem r141_14 (d : Nat) (st : List Value) (σ : am_St) (τ : Int64) (x : Nat) (v1 v2 v3 v4 : Value) : am_run d 141 14 [.ref x, v1, v2, v3, v4] st σ τ = am_run d 141 15 [.ref x, v1, v2, v3, v4] (.ref x :: st) σ τ := rr_aload_n dX10_digest_14 rfl
theorem r141_15 (d : Nat) (st : List Value) (σ : am_St) (τ : Int64) (x : Nat) (v1 v2 v3 v4 : Value) : am_run d 141 15 [.ref x, v1, v2, v3, v4] st σ τ = am_run d 141 16 [.ref x, v1, v2, v3, v4] (.ref x :: st) σ τ := rr_aload_n dX10_digest_15 rfl
theorem r141_16 (d : Nat) (ls st : List Value) (σ : am_St) (τ : Int64) (k : Nat) : am_run d 141 16 ls (.ref k :: st) σ τ = am_gf k 10 2 σ τ (fun v => am_run d 141 19 ls (v :: st) σ τ) := rr_getf dX10_digest_16 (by decide +kernel)
theorem r141_19 (d : Nat) (st : List Value) (σ : am_St) (τ : Int64) (x : Int32) (v0 v2 v3 v4 : Value) : am_run d 141 19 [v0, .int x, v2, v3, v4] st σ τ = am_run d 141 20 [v0, .int x, v2, v3, v4] (.int x :: st) σ τ := rr_iload_n dX10_digest_19 rfl
theorem r141_20 (d : Nat) (ls st : List Value) (σ : am_St) (τ : Int64) (i : Int32) (k : Nat) : am_run d 141 20 ls (.int i :: .ref k :: st) σ τ = am_ai false k i (fun j => am_run d 141 21 ls (.int (σ k j) :: st) σ τ) := rr_iald dX10_digest_20
theorem r141_21 (d : Nat) (ls st : List Value) (σ : am_St) (τ : Int64) (x : Int32) : am_run d 141 21 ls (.int x :: st) σ τ = am_run d 141 22 ls (.long x.toInt64 :: st) σ τ := rr_i2l dX10_digest_21
theorem r141_22 (d : Nat) (ls st : List Value) (σ : am_St) (τ : Int64) (k : Nat) (a0 : Int64) (hk : am_kc k = 10) (hc : am_cats st ≤ 8) : am_run (d + 1) 141 22 ls (.long a0 :: .ref k :: st) σ τ = (am_call d 140 [.ref k, .long a0] σ τ).bind (fun r => am_run (d + 1) 141 25 ls (r.1.toList ++ st) r.2.1 r.2.2) := rr_invv [.long a0] dX10_digest_22 (by decide +kernel) (by decide) rfl (Nat.le_of_ble_eq_true rfl) hk hc
theorem r141_25 (d : Nat) (st : List Value) (σ : am_St) (τ : Int64) (x : Int32) (v0 v2 v3 v4 : Value) : am_run d 141 25 [v0, .int x, v2, v3, v4] st σ τ = am_run d 141 28 [am_nl v0, .int (x + 1), v2, v3, v4] st σ τ := rr_iinc 1 _ dX10_digest_25 rfl (by decide) (by decide) (by first | rfl | (by_cases h : v0.category = 2 <;> simp [am_set1, am_nl, h]))
theorem r141_28 (d : Nat) (ls st : List Value) (σ : am_St) (τ : Int64) : am_run d 141 28 ls st σ τ = am_run d 141 9 ls st σ τ := rr_goto 9 dX10_digest_28 (by decide)
theorem r141_31 (d : Nat) (st : List Value) (σ : am_St) (τ : Int64) (x : Nat) (v1 v2 v3 v4 : Value) : am_run d 141 31 [.ref x, v1, v2, v3, v4] st σ τ = am_run d 141 32 [.ref x, v1, v2, v3, v4] (.ref x :: st) σ τ := rr_aload_n dX10_digest_31 rfl
theorem r141_32 (d : Nat) (ls st : List Value) (σ : am_St) (τ : Int64) (k : Nat)  (hk : am_kc k = 10) (hc : am_cats st ≤ 8) : am_run (d + 1) 141 32 ls (.ref k :: st) σ τ = (am_call d 131 [.ref k] σ τ).bind (fun r => am_run (d + 1) 141 35 ls (r.1.toList ++ st) r.2.1 r.2.2) := rr_invv [] dX10_digest_32 (by decide +kernel) (by decide) rfl (Nat.le_of_ble_eq_true rfl) hk hc
theorem r141_35 (d : Nat) (st : List Value) (σ : am_St) (τ : Int64) (x : Int32) (v0 v1 v2 v3 v4 : Value) : am_run d 141 35 [v0, v1, v2, v3, v4] (.int x :: st) σ τ = am_run d 141 36 [am_nl v0, .int x, v2, v3, v4] st σ τ := rr_istore_n _ dX10_digest_35 (by decide) (by first | rfl | (by_cases h : v0.category = 2 <;> simp [am_set1, am_nl, h]))
theorem r141_36 (d : Nat) (st : List Value) (σ : am_St) (τ : Int64) (x : Nat) (v1 v2 v3 v4 : Value) : am_run d 141 36 [.ref x, v1, v2, v3, v4] st σ τ = am_run d 141 37 [.ref x, v1, v2, v3, v4] (.ref x :: st) σ τ := rr_aload_n dX10_digest_36 rfl
theorem r141_37 (d : Nat) (ls st : List Value) (σ : am_St) (τ : Int64) (k : Nat)  (hk : am_kc k = 10) (hc : am_cats st ≤ 8) : am_run (d + 1) 141 37 ls (.ref k :: st) σ τ = (am_call d 116 [.ref k] σ τ).bind (fun r => am_run (d + 1) 141 40 ls (r.1.toList ++ st) r.2.1 r.2.2) := rr_invv [] dX10_digest_37 (by decide +kernel) (by decide) rfl (Nat.le_of_ble_eq_true rfl) hk hc
theorem r141_40 (d : Nat) (st : List Value) (σ : am_St) (τ : Int64) (x : Int32) (v0 v1 v2 v3 v4 : Value) : am_run d 141 40 [v0, v1, v2, v3, v4] (.int x :: st) σ τ = am_run d 141 41 [v0, am_nl v1, .int x, v3, v4] st σ τ := rr_istore_n _ dX10_digest_40 (by decide) (by first | rfl | (by_cases h : v1.category = 2 <;> simp [am_set1, am_nl, h]))
theorem r141_41 (d : Nat) (ls st : List Value) (σ : am_St) (τ : Int64) : am_run d 141 41 ls st σ τ = am_run d 141 42 ls (.int 0 :: st) σ τ := rr_iconst 0 dX10_digest_41 (by decide)
theorem r141_42 (d : Nat) (st : List Value) (σ : am_St) (τ : Int64) (x : Int32) (v0 v1 v2 v3 v4 : Value) : am_run d 141 42 [v0, v1, v2, v3, v4] (.int x :: st) σ τ = am_run d 141 43 [v0, v1, am_nl v2, .int x, v4] st σ τ := rr_istore_n _ dX10_digest_42 (by decide) (by first | rfl | (by_cases h : v2.category = 2 <;> simp [am_set1, am_nl, h]))
theorem r141_43 (d : Nat) (st : List Value) (σ : am_St) (τ : Int64) (x : Int32) (v0 v1 v2 v4 : Value) : am_run d 141 43 [v0, v1, v2, .int x, v4] st σ τ = am_run d 141 44 [v0, v1, v2, .int x, v4] (.int x :: st) σ τ := rr_iload_n dX10_digest_43 rfl
theorem r141_44 (d : Nat) (st : List Value) (σ : am_St) (τ : Int64) (x : Nat) (v1 v2 v3 v4 : Value) : am_run d 141 44 [.ref x, v1, v2, v3, v4] st σ τ = am_run d 141 45 [.ref x, v1, v2, v3, v4] (.ref x :: st) σ τ := rr_aload_n dX10_digest_44 rfl
theorem r141_45 (d : Nat) (ls st : List Value) (σ : am_St) (τ : Int64) (k : Nat) : am_run d 141 45 ls (.ref k :: st) σ τ = am_gf k 10 6 σ τ (fun v => am_run d 141 48 ls (v :: st) σ τ) := rr_getf dX10_digest_45 (by decide +kernel)
theorem r141_48 (d : Nat) (ls st : List Value) (σ : am_St) (τ : Int64) (x y : Int32) : am_run d 141 48 ls (.int y :: .int x :: st) σ τ = if y ≤ x then am_run d 141 116 ls st σ τ else am_run d 141 51 ls st σ τ := (rr_icmp 116 dX10_digest_48 (by decide)).trans am_sel
theorem r141_51 (d : Nat) (ls st : List Value) (σ : am_St) (τ : Int64) : am_run d 141 51 ls st σ τ = am_run d 141 52 ls (.int 0 :: st) σ τ := rr_iconst 0 dX10_digest_51 (by decide)
theorem r141_52 (d : Nat) (st : List Value) (σ : am_St) (τ : Int64) (x : Int32) (v0 v1 v2 v3 v4 : Value) : am_run d 141 52 [v0, v1, v2, v3, v4] (.int x :: st) σ τ = am_run d 141 54 [v0, v1, v2, am_nl v3, .int x] st σ τ := rr_istore _ dX10_digest_52 (by decide) (by first | rfl | (by_cases h : v3.category = 2 <;> simp [am_set1, am_nl, h]))
theorem r141_54 (d : Nat) (st : List Value) (σ : am_St) (τ : Int64) (x : Int32) (v0 v1 v2 v3 : Value) : am_run d 141 54 [v0, v1, v2, v3, .int x] st σ τ = am_run d 141 56 [v0, v1, v2, v3, .int x] (.int x :: st) σ τ := rr_iload dX10_digest_54 rfl
theorem r141_56 (d : Nat) (ls st : List Value) (σ : am_St) (τ : Int64) : am_run d 141 56 ls st σ τ = am_run d 141 58 ls (.int 8 :: st) σ τ := rr_bipush 8 dX10_digest_56 (by decide)
theorem r141_58 (d : Nat) (ls st : List Value) (σ : am_St) (τ : Int64) (x y : Int32) : am_run d 141 58 ls (.int y :: .int x :: st) σ τ = if y ≤ x then am_run d 141 79 ls st σ τ else am_run d 141 61 ls st σ τ := (rr_icmp 79 dX10_digest_58 (by decide)).trans am_sel
theorem r141_61 (d : Nat) (st : List Value) (σ : am_St) (τ : Int64) (x : Nat) (v1 v2 v3 v4 : Value) : am_run d 141 61 [.ref x, v1, v2, v3, v4] st σ τ = am_run d 141 62 [.ref x, v1, v2, v3, v4] (.ref x :: st) σ τ := rr_aload_n dX10_digest_61 rfl
theorem r141_62 (d : Nat) (st : List Value) (σ : am_St) (τ : Int64) (x : Nat) (v1 v2 v3 v4 : Value) : am_run d 141 62 [.ref x, v1, v2, v3, v4] st σ τ = am_run d 141 63 [.ref x, v1, v2, v3, v4] (.ref x :: st) σ τ := rr_aload_n dX10_digest_62 rfl
theorem r141_63 (d : Nat) (st : List Value) (σ : am_St) (τ : Int64) (x : Int32) (v0 v1 v2 v4 : Value) : am_run d 141 63 [v0, v1, v2, .int x, v4] st σ τ = am_run d 141 64 [v0, v1, v2, .int x, v4] (.int x :: st) σ τ := rr_iload_n dX10_digest_63 rfl
theorem r141_64 (d : Nat) (st : List Value) (σ : am_St) (τ : Int64) (x : Int32) (v0 v1 v2 v3 : Value) : am_run d 141 64 [v0, v1, v2, v3, .int x] st σ τ = am_run d 141 66 [v0, v1, v2, v3, .int x] (.int x :: st) σ τ := rr_iload dX10_digest_64 rfl
theorem r141_66 (d : Nat) (ls st : List Value) (σ : am_St) (τ : Int64) (k : Nat) (a0 : Int32) (a1 : Int32) (hk : am_kc k = 10) (hc : am_cats st ≤ 8) : am_run (d + 1) 141 66 ls (.int a1 :: .int a0 :: .ref k :: st) σ τ = (am_call d 104 [.ref k, .int a0, .int a1] σ τ).bind (fun r => am_run (d + 1) 141 69 ls (r.1.toList ++ st) r.2.1 r.2.2) := rr_invv [.int a0, .int a1] dX10_digest_66 (by decide +kernel) (by decide) rfl (Nat.le_of_ble_eq_true rfl) hk hc
theorem r141_69 (d : Nat) (ls st : List Value) (σ : am_St) (τ : Int64) (x : Int32) : am_run d 141 69 ls (.int x :: st) σ τ = am_run d 141 70 ls (.long x.toInt64 :: st) σ τ := rr_i2l dX10_digest_69
theorem r141_70 (d : Nat) (ls st : List Value) (σ : am_St) (τ : Int64) (k : Nat) (a0 : Int64) (hk : am_kc k = 10) (hc : am_cats st ≤ 8) : am_run (d + 1) 141 70 ls (.long a0 :: .ref k :: st) σ τ = (am_call d 140 [.ref k, .long a0] σ τ).bind (fun r => am_run (d + 1) 141 73 ls (r.1.toList ++ st) r.2.1 r.2.2) := rr_invv [.long a0] dX10_digest_70 (by decide +kernel) (by decide) rfl (Nat.le_of_ble_eq_true rfl) hk hc
theorem r141_73 (d : Nat) (st : List Value) (σ : am_St) (τ : Int64) (x : Int32) (v0 v1 v2 v3 : Value) : am_run d 141 73 [v0, v1, v2, v3, .int x] st σ τ = am_run d 141 76 [v0, v1, v2, am_nl v3, .int (x + 1)] st σ τ := rr_iinc 1 _ dX10_digest_73 rfl (by decide) (by decide) (by first | rfl | (by_cases h : v3.category = 2 <;> simp [am_set1, am_nl, h]))
theorem r141_76 (d : Nat) (ls st : List Value) (σ : am_St) (τ : Int64) : am_run d 141 76 ls st σ τ = am_run d 141 54 ls st σ τ := rr_goto 54 dX10_digest_76 (by decide)
theorem r141_79 (d : Nat) (st : List Value) (σ : am_St) (τ : Int64) (x : Nat) (v1 v2 v3 v4 : Value) : am_run d 141 79 [.ref x, v1, v2, v3, v4] st σ τ = am_run d 141 80 [.ref x, v1, v2, v3, v4] (.ref x :: st) σ τ := rr_aload_n dX10_digest_79 rfl
theorem r141_80 (d : Nat) (st : List Value) (σ : am_St) (τ : Int64) (x : Nat) (v1 v2 v3 v4 : Value) : am_run d 141 80 [.ref x, v1, v2, v3, v4] st σ τ = am_run d 141 81 [.ref x, v1, v2, v3, v4] (.ref x :: st) σ τ := rr_aload_n dX10_digest_80 rfl
theorem r141_81 (d : Nat) (st : List Value) (σ : am_St) (τ : Int64) (x : Int32) (v0 v1 v2 v4 : Value) : am_run d 141 81 [v0, v1, v2, .int x, v4] st σ τ = am_run d 141 82 [v0, v1, v2, .int x, v4] (.int x :: st) σ τ := rr_iload_n dX10_digest_81 rfl
theorem r141_82 (d : Nat) (ls st : List Value) (σ : am_St) (τ : Int64) (k : Nat) (a0 : Int32) (hk : am_kc k = 10) (hc : am_cats st ≤ 8) : am_run (d + 1) 141 82 ls (.int a0 :: .ref k :: st) σ τ = (am_call d 126 [.ref k, .int a0] σ τ).bind (fun r => am_run (d + 1) 141 85 ls (r.1.toList ++ st) r.2.1 r.2.2) := rr_invv [.int a0] dX10_digest_82 (by decide +kernel) (by decide) rfl (Nat.le_of_ble_eq_true rfl) hk hc
theorem r141_85 (d : Nat) (ls st : List Value) (σ : am_St) (τ : Int64) (x : Int32) : am_run d 141 85 ls (.int x :: st) σ τ = am_run d 141 86 ls (.long x.toInt64 :: st) σ τ := rr_i2l dX10_digest_85
theorem r141_86 (d : Nat) (ls st : List Value) (σ : am_St) (τ : Int64) (k : Nat) (a0 : Int64) (hk : am_kc k = 10) (hc : am_cats st ≤ 8) : am_run (d + 1) 141 86 ls (.long a0 :: .ref k :: st) σ τ = (am_call d 140 [.ref k, .long a0] σ τ).bind (fun r => am_run (d + 1) 141 89 ls (r.1.toList ++ st) r.2.1 r.2.2) := rr_invv [.long a0] dX10_digest_86 (by decide +kernel) (by decide) rfl (Nat.le_of_ble_eq_true rfl) hk hc
theorem r141_89 (d : Nat) (st : List Value) (σ : am_St) (τ : Int64) (x : Nat) (v1 v2 v3 v4 : Value) : am_run d 141 89 [.ref x, v1, v2, v3, v4] st σ τ = am_run d 141 90 [.ref x, v1, v2, v3, v4] (.ref x :: st) σ τ := rr_aload_n dX10_digest_89 rfl
theorem r141_90 (d : Nat) (st : List Value) (σ : am_St) (τ : Int64) (x : Nat) (v1 v2 v3 v4 : Value) : am_run d 141 90 [.ref x, v1, v2, v3, v4] st σ τ = am_run d 141 91 [.ref x, v1, v2, v3, v4] (.ref x :: st) σ τ := rr_aload_n dX10_digest_90 rfl
theorem r141_91 (d : Nat) (st : List Value) (σ : am_St) (τ : Int64) (x : Int32) (v0 v1 v2 v4 : Value) : am_run d 141 91 [v0, v1, v2, .int x, v4] st σ τ = am_run d 141 92 [v0, v1, v2, .int x, v4] (.int x :: st) σ τ := rr_iload_n dX10_digest_91 rfl
theorem r141_92 (d : Nat) (ls st : List Value) (σ : am_St) (τ : Int64) (k : Nat) (a0 : Int32) (hk : am_kc k = 10) (hc : am_cats st ≤ 8) : am_run (d + 1) 141 92 ls (.int a0 :: .ref k :: st) σ τ = (am_call d 118 [.ref k, .int a0] σ τ).bind (fun r => am_run (d + 1) 141 95 ls (r.1.toList ++ st) r.2.1 r.2.2) := rr_invv [.int a0] dX10_digest_92 (by decide +kernel) (by decide) rfl (Nat.le_of_ble_eq_true rfl) hk hc
theorem r141_95 (d : Nat) (ls st : List Value) (σ : am_St) (τ : Int64) (x : Int32) : am_run d 141 95 ls (.int x :: st) σ τ = am_run d 141 96 ls (.long x.toInt64 :: st) σ τ := rr_i2l dX10_digest_95
theorem r141_96 (d : Nat) (ls st : List Value) (σ : am_St) (τ : Int64) (k : Nat) (a0 : Int64) (hk : am_kc k = 10) (hc : am_cats st ≤ 8) : am_run (d + 1) 141 96 ls (.long a0 :: .ref k :: st) σ τ = (am_call d 140 [.ref k, .long a0] σ τ).bind (fun r => am_run (d + 1) 141 99 ls (r.1.toList ++ st) r.2.1 r.2.2) := rr_invv [.long a0] dX10_digest_96 (by decide +kernel) (by decide) rfl (Nat.le_of_ble_eq_true rfl) hk hc
theorem r141_99 (d : Nat) (st : List Value) (σ : am_St) (τ : Int64) (x : Nat) (v1 v2 v3 v4 : Value) : am_run d 141 99 [.ref x, v1, v2, v3, v4] st σ τ = am_run d 141 100 [.ref x, v1, v2, v3, v4] (.ref x :: st) σ τ := rr_aload_n dX10_digest_99 rfl
theorem r141_100 (d : Nat) (st : List Value) (σ : am_St) (τ : Int64) (x : Nat) (v1 v2 v3 v4 : Value) : am_run d 141 100 [.ref x, v1, v2, v3, v4] st σ τ = am_run d 141 101 [.ref x, v1, v2, v3, v4] (.ref x :: st) σ τ := rr_aload_n dX10_digest_100 rfl
theorem r141_101 (d : Nat) (ls st : List Value) (σ : am_St) (τ : Int64) (k : Nat) : am_run d 141 101 ls (.ref k :: st) σ τ = am_gf k 10 30 σ τ (fun v => am_run d 141 104 ls (v :: st) σ τ) := rr_getf dX10_digest_101 (by decide +kernel)
theorem r141_104 (d : Nat) (st : List Value) (σ : am_St) (τ : Int64) (x : Int32) (v0 v1 v2 v4 : Value) : am_run d 141 104 [v0, v1, v2, .int x, v4] st σ τ = am_run d 141 105 [v0, v1, v2, .int x, v4] (.int x :: st) σ τ := rr_iload_n dX10_digest_104 rfl
theorem r141_105 (d : Nat) (ls st : List Value) (σ : am_St) (τ : Int64) (i : Int32) (k : Nat) : am_run d 141 105 ls (.int i :: .ref k :: st) σ τ = am_ai false k i (fun j => am_run d 141 106 ls (.int (σ k j) :: st) σ τ) := rr_iald dX10_digest_105
theorem r141_106 (d : Nat) (ls st : List Value) (σ : am_St) (τ : Int64) (x : Int32) : am_run d 141 106 ls (.int x :: st) σ τ = am_run d 141 107 ls (.long x.toInt64 :: st) σ τ := rr_i2l dX10_digest_106
theorem r141_107 (d : Nat) (ls st : List Value) (σ : am_St) (τ : Int64) (k : Nat) (a0 : Int64) (hk : am_kc k = 10) (hc : am_cats st ≤ 8) : am_run (d + 1) 141 107 ls (.long a0 :: .ref k :: st) σ τ = (am_call d 140 [.ref k, .long a0] σ τ).bind (fun r => am_run (d + 1) 141 110 ls (r.1.toList ++ st) r.2.1 r.2.2) := rr_invv [.long a0] dX10_digest_107 (by decide +kernel) (by decide) rfl (Nat.le_of_ble_eq_true rfl) hk hc
theorem r141_110 (d : Nat) (st : List Value) (σ : am_St) (τ : Int64) (x : Int32) (v0 v1 v2 v4 : Value) : am_run d 141 110 [v0, v1, v2, .int x, v4] st σ τ = am_run d 141 113 [v0, v1, am_nl v2, .int (x + 1), v4] st σ τ := rr_iinc 1 _ dX10_digest_110 rfl (by decide) (by decide) (by first | rfl | (by_cases h : v2.category = 2 <;> simp [am_set1, am_nl, h]))
theorem r141_113 (d : Nat) (ls st : List Value) (σ : am_St) (τ : Int64) : am_run d 141 113 ls st σ τ = am_run d 141 43 ls st σ τ := rr_goto 43 dX10_digest_113 (by decide)
theorem r141_116 (d : Nat) (st : List Value) (σ : am_St) (τ : Int64) (x : Nat) (v1 v2 v3 v4 : Value) : am_run d 141 116 [.ref x, v1, v2, v3, v4] st σ τ = am_run d 141 117 [.ref x, v1, v2, v3, v4] (.ref x :: st) σ τ := rr_aload_n dX10_digest_116 rfl
theorem r141_117 (d : Nat) (st : List Value) (σ : am_St) (τ : Int64) (x : Nat) (v1 v2 v3 v4 : Value) : am_run d 141 117 [.ref x, v1, v2, v3, v4] st σ τ = am_run d 141 118 [.ref x, v1, v2, v3, v4] (.ref x :: st) σ τ := rr_aload_n dX10_digest_117 rfl
theorem r141_118 (d : Nat) (ls st : List Value) (σ : am_St) (τ : Int64) : am_run d 141 118 ls st σ τ = am_run d 141 119 ls (.int 0 :: st) σ τ := rr_iconst 0 dX10_digest_118 (by decide)
theorem r141_119 (d : Nat) (ls st : List Value) (σ : am_St) (τ : Int64) (k : Nat) (a0 : Int32) (hk : am_kc k = 10) (hc : am_cats st ≤ 8) : am_run (d + 1) 141 119 ls (.int a0 :: .ref k :: st) σ τ = (am_call d 111 [.ref k, .int a0] σ τ).bind (fun r => am_run (d + 1) 141 122 ls (r.1.toList ++ st) r.2.1 r.2.2) := rr_invv [.int a0] dX10_digest_119 (by decide +kernel) (by decide) rfl (Nat.le_of_ble_eq_true rfl) hk hc
theorem r141_122 (d : Nat) (ls st : List Value) (σ : am_St) (τ : Int64) (x : Int32) : am_run d 141 122 ls (.int x :: st) σ τ = am_run d 141 123 ls (.long x.toInt64 :: st) σ τ := rr_i2l dX10_digest_122
theorem r141_123 (d : Nat) (ls st : List Value) (σ : am_St) (τ : Int64) (k : Nat) (a0 : Int64) (hk : am_kc k = 10) (hc : am_cats st ≤ 8) : am_run (d + 1) 141 123 ls (.long a0 :: .ref k :: st) σ τ = (am_call d 140 [.ref k, .long a0] σ τ).bind (fun r => am_run (d + 1) 141 126 ls (r.1.toList ++ st) r.2.1 r.2.2) := rr_invv [.long a0] dX10_digest_123 (by decide +kernel) (by decide) rfl (Nat.le_of_ble_eq_true rfl) hk hc
theorem r141_126 (d : Nat) (st : List Value) (σ : am_St) (τ : Int64) (x : Nat) (v1 v2 v3 v4 : Value) : am_run d 141 126 [.ref x, v1, v2, v3, v4] st σ τ = am_run d 141 127 [.ref x, v1, v2, v3, v4] (.ref x :: st) σ τ := rr_aload_n dX10_digest_126 rfl
theorem r141_127 (d : Nat) (st : List Value) (σ : am_St) (τ : Int64) (x : Nat) (v1 v2 v3 v4 : Value) : am_run d 141 127 [.ref x, v1, v2, v3, v4] st σ τ = am_run d 141 128 [.ref x, v1, v2, v3, v4] (.ref x :: st) σ τ := rr_aload_n dX10_digest_127 rfl
theorem r141_128 (d : Nat) (ls st : List Value) (σ : am_St) (τ : Int64) : am_run d 141 128 ls st σ τ = am_run d 141 129 ls (.int 1 :: st) σ τ := rr_iconst 1 dX10_digest_128 (by decide)
theorem r141_129 (d : Nat) (ls st : List Value) (σ : am_St) (τ : Int64) (k : Nat) (a0 : Int32) (hk : am_kc k = 10) (hc : am_cats st ≤ 8) : am_run (d + 1) 141 129 ls (.int a0 :: .ref k :: st) σ τ = (am_call d 111 [.ref k, .int a0] σ τ).bind (fun r => am_run (d + 1) 141 132 ls (r.1.toList ++ st) r.2.1 r.2.2) := rr_invv [.int a0] dX10_digest_129 (by decide +kernel) (by decide) rfl (Nat.le_of_ble_eq_true rfl) hk hc
theorem r141_132 (d : Nat) (ls st : List Value) (σ : am_St) (τ : Int64) (x : Int32) : am_run d 141 132 ls (.int x :: st) σ τ = am_run d 141 133 ls (.long x.toInt64 :: st) σ τ := rr_i2l dX10_digest_132
theorem r141_133 (d : Nat) (ls st : List Value) (σ : am_St) (τ : Int64) (k : Nat) (a0 : Int64) (hk : am_kc k = 10) (hc : am_cats st ≤ 8) : am_run (d + 1) 141 133 ls (.long a0 :: .ref k :: st) σ τ = (am_call d 140 [.ref k, .long a0] σ τ).bind (fun r => am_run (d + 1) 141 136 ls (r.1.toList ++ st) r.2.1 r.2.2) := rr_invv [.long a0] dX10_digest_133 (by decide +kernel) (by decide) rfl (Nat.le_of_ble_eq_true rfl) hk hc
theorem r141_136 (d : Nat) (st : List Value) (σ : am_St) (τ : Int64) (x : Nat) (v1 v2 v3 v4 : Value) : am_run d 141 136 [.ref x, v1, v2, v3, v4] st σ τ = am_run d 141 137 [.ref x, v1, v2, v3, v4] (.ref x :: st) σ τ := rr_aload_n dX10_digest_136 rfl
theorem r141_137 (d : Nat) (st : List Value) (σ : am_St) (τ : Int64) (x : Int32) (v0 v1 v3 v4 : Value) : am_run d 141 137 [v0, v1, .int x, v3, v4] st σ τ = am_run d 141 138 [v0, v1, .int x, v3, v4] (.int x :: st) σ τ := rr_iload_n dX10_digest_137 rfl
theorem r141_138 (d : Nat) (ls st : List Value) (σ : am_St) (τ : Int64) (x : Int32) : am_run d 141 138 ls (.int x :: st) σ τ = am_run d 141 139 ls (.long x.toInt64 :: st) σ τ := rr_i2l dX10_digest_138
theorem r141_139 (d : Nat) (ls st : List Value) (σ : am_St) (τ : Int64) (k : Nat) (a0 : Int64) (hk : am_kc k = 10) (hc : am_cats st ≤ 8) : am_run (d + 1) 141 139 ls (.long a0 :: .ref k :: st) σ τ = (am_call d 140 [.ref k, .long a0] σ τ).bind (fun r => am_run (d + 1) 141 142 ls (r.1.toList ++ st) r.2.1 r.2.2) := rr_invv [.long a0] dX10_digest_139 (by decide +kernel) (by decide) rfl (Nat.le_of_ble_eq_true rfl) hk hc
theorem r141_142 (d : Nat) (st : List Value) (σ : am_St) (τ : Int64) (x : Nat) (v1 v2 v3 v4 : Value) : am_run d 141 142 [.ref x, v1, v2, v3, v4] st σ τ = am_run d 141 143 [.ref x, v1, v2, v3, v4] (.ref x :: st) σ τ := rr_aload_n dX10_digest_142 rfl
theorem r141_143 (d : Nat) (ls st : List Value) (σ : am_St) (τ : Int64) (k : Nat)  (hk : am_kc k = 10) (hc : am_cats st ≤ 8) : am_run (d + 1) 141 143 ls (.ref k :: st) σ τ = (am_call d 121 [.ref k] σ τ).bind (fun r => am_run (d + 1) 141 146 ls (r.1.toList ++ st) r.2.1 r.2.2) := rr_invv [] dX10_digest_143 (by decide +kernel) (by decide) rfl (Nat.le_of_ble_eq_true rfl) hk hc
theorem r141_146 (d : Nat) (ls st : List Value) (σ : am_St) (τ : Int64) : am_run d 141 146 ls st σ τ = am_run d 141 147 ls (.int 0 :: st) σ τ := rr_iconst 0 dX10_digest_146 (by decide)
theorem r141_147 (d : Nat) (st : List Value) (σ : am_St) (τ : Int64) (x : Int32) (v0 v1 v2 v3 v4 : Value) : am_run d 141 147 [v0, v1, v2, v3, v4] (.int x :: st) σ τ = am_run d 141 148 [v0, v1, am_nl v2, .int x, v4] st σ τ := rr_istore_n _ dX10_digest_147 (by decide) (by first | rfl | (by_cases h : v2.category = 2 <;> simp [am_set1, am_nl, h]))
theorem r141_148 (d : Nat) (st : List Value) (σ : am_St) (τ : Int64) (x : Int32) (v0 v1 v2 v4 : Value) : am_run d 141 148 [v0, v1, v2, .int x, v4] st σ τ = am_run d 141 149 [v0, v1, v2, .int x, v4] (.int x :: st) σ τ := rr_iload_n dX10_digest_148 rfl
theorem r141_149 (d : Nat) (ls st : List Value) (σ : am_St) (τ : Int64) : am_run d 141 149 ls st σ τ = am_run d 141 150 ls (.int 4 :: st) σ τ := rr_iconst 4 dX10_digest_149 (by decide)
theorem r141_150 (d : Nat) (ls st : List Value) (σ : am_St) (τ : Int64) (x y : Int32) : am_run d 141 150 ls (.int y :: .int x :: st) σ τ = if y ≤ x then am_run d 141 170 ls st σ τ else am_run d 141 153 ls st σ τ := (rr_icmp 170 dX10_digest_150 (by decide)).trans am_sel
theorem r141_153 (d : Nat) (st : List Value) (σ : am_St) (τ : Int64) (x : Nat) (v1 v2 v3 v4 : Value) : am_run d 141 153 [.ref x, v1, v2, v3, v4] st σ τ = am_run d 141 154 [.ref x, v1, v2, v3, v4] (.ref x :: st) σ τ := rr_aload_n dX10_digest_153 rfl
theorem r141_154 (d : Nat) (st : List Value) (σ : am_St) (τ : Int64) (x : Nat) (v1 v2 v3 v4 : Value) : am_run d 141 154 [.ref x, v1, v2, v3, v4] st σ τ = am_run d 141 155 [.ref x, v1, v2, v3, v4] (.ref x :: st) σ τ := rr_aload_n dX10_digest_154 rfl
theorem r141_155 (d : Nat) (ls st : List Value) (σ : am_St) (τ : Int64) (k : Nat) : am_run d 141 155 ls (.ref k :: st) σ τ = am_gf k 10 26 σ τ (fun v => am_run d 141 158 ls (v :: st) σ τ) := rr_getf dX10_digest_155 (by decide +kernel)
theorem r141_158 (d : Nat) (st : List Value) (σ : am_St) (τ : Int64) (x : Int32) (v0 v1 v2 v4 : Value) : am_run d 141 158 [v0, v1, v2, .int x, v4] st σ τ = am_run d 141 159 [v0, v1, v2, .int x, v4] (.int x :: st) σ τ := rr_iload_n dX10_digest_158 rfl
theorem r141_159 (d : Nat) (ls st : List Value) (σ : am_St) (τ : Int64) (i : Int32) (k : Nat) : am_run d 141 159 ls (.int i :: .ref k :: st) σ τ = am_ai false k i (fun j => am_run d 141 160 ls (.int (σ k j) :: st) σ τ) := rr_iald dX10_digest_159
theorem r141_160 (d : Nat) (ls st : List Value) (σ : am_St) (τ : Int64) (x : Int32) : am_run d 141 160 ls (.int x :: st) σ τ = am_run d 141 161 ls (.long x.toInt64 :: st) σ τ := rr_i2l dX10_digest_160
theorem r141_161 (d : Nat) (ls st : List Value) (σ : am_St) (τ : Int64) (k : Nat) (a0 : Int64) (hk : am_kc k = 10) (hc : am_cats st ≤ 8) : am_run (d + 1) 141 161 ls (.long a0 :: .ref k :: st) σ τ = (am_call d 140 [.ref k, .long a0] σ τ).bind (fun r => am_run (d + 1) 141 164 ls (r.1.toList ++ st) r.2.1 r.2.2) := rr_invv [.long a0] dX10_digest_161 (by decide +kernel) (by decide) rfl (Nat.le_of_ble_eq_true rfl) hk hc
theorem r141_164 (d : Nat) (st : List Value) (σ : am_St) (τ : Int64) (x : Int32) (v0 v1 v2 v4 : Value) : am_run d 141 164 [v0, v1, v2, .int x, v4] st σ τ = am_run d 141 167 [v0, v1, am_nl v2, .int (x + 1), v4] st σ τ := rr_iinc 1 _ dX10_digest_164 rfl (by decide) (by decide) (by first | rfl | (by_cases h : v2.category = 2 <;> simp [am_set1, am_nl, h]))
theorem r141_167 (d : Nat) (ls st : List Value) (σ : am_St) (τ : Int64) : am_run d 141 167 ls st σ τ = am_run d 141 148 ls st σ τ := rr_goto 148 dX10_digest_167 (by decide)
theorem r141_170 (d : Nat) (ls st : List Value) (σ : am_St) (τ : Int64) : am_run d 141 170 ls st σ τ = am_run d 141 171 ls (.int 0 :: st) σ τ := rr_iconst 0 dX10_digest_170 (by decide)
theorem r141_171 (d : Nat) (st : List Value) (σ : am_St) (τ : Int64) (x : Int32) (v0 v1 v2 v3 v4 : Value) : am_run d 141 171 [v0, v1, v2, v3, v4] (.int x :: st) σ τ = am_run d 141 172 [v0, v1, am_nl v2, .int x, v4] st σ τ := rr_istore_n _ dX10_digest_171 (by decide) (by first | rfl | (by_cases h : v2.category = 2 <;> simp [am_set1, am_nl, h]))
theorem r141_172 (d : Nat) (st : List Value) (σ : am_St) (τ : Int64) (x : Int32) (v0 v1 v2 v4 : Value) : am_run d 141 172 [v0, v1, v2, .int x, v4] st σ τ = am_run d 141 173 [v0, v1, v2, .int x, v4] (.int x :: st) σ τ := rr_iload_n dX10_digest_172 rfl
theorem r141_173 (d : Nat) (ls st : List Value) (σ : am_St) (τ : Int64) : am_run d 141 173 ls st σ τ = am_run d 141 175 ls (.int 6 :: st) σ τ := rr_bipush 6 dX10_digest_173 (by decide)
theorem r141_175 (d : Nat) (ls st : List Value) (σ : am_St) (τ : Int64) (x y : Int32) : am_run d 141 175 ls (.int y :: .int x :: st) σ τ = if y ≤ x then am_run d 141 194 ls st σ τ else am_run d 141 178 ls st σ τ := (rr_icmp 194 dX10_digest_175 (by decide)).trans am_sel
theorem r141_178 (d : Nat) (st : List Value) (σ : am_St) (τ : Int64) (x : Nat) (v1 v2 v3 v4 : Value) : am_run d 141 178 [.ref x, v1, v2, v3, v4] st σ τ = am_run d 141 179 [.ref x, v1, v2, v3, v4] (.ref x :: st) σ τ := rr_aload_n dX10_digest_178 rfl
theorem r141_179 (d : Nat) (st : List Value) (σ : am_St) (τ : Int64) (x : Nat) (v1 v2 v3 v4 : Value) : am_run d 141 179 [.ref x, v1, v2, v3, v4] st σ τ = am_run d 141 180 [.ref x, v1, v2, v3, v4] (.ref x :: st) σ τ := rr_aload_n dX10_digest_179 rfl
theorem r141_180 (d : Nat) (st : List Value) (σ : am_St) (τ : Int64) (x : Int32) (v0 v1 v2 v4 : Value) : am_run d 141 180 [v0, v1, v2, .int x, v4] st σ τ = am_run d 141 181 [v0, v1, v2, .int x, v4] (.int x :: st) σ τ := rr_iload_n dX10_digest_180 rfl
theorem r141_181 (d : Nat) (ls st : List Value) (σ : am_St) (τ : Int64) (k : Nat) (a0 : Int32) (hk : am_kc k = 10) (hc : am_cats st ≤ 8) : am_run (d + 1) 141 181 ls (.int a0 :: .ref k :: st) σ τ = (am_call d 133 [.ref k, .int a0] σ τ).bind (fun r => am_run (d + 1) 141 184 ls (r.1.toList ++ st) r.2.1 r.2.2) := rr_invv [.int a0] dX10_digest_181 (by decide +kernel) (by decide) rfl (Nat.le_of_ble_eq_true rfl) hk hc
theorem r141_184 (d : Nat) (ls st : List Value) (σ : am_St) (τ : Int64) (x : Int32) : am_run d 141 184 ls (.int x :: st) σ τ = am_run d 141 185 ls (.long x.toInt64 :: st) σ τ := rr_i2l dX10_digest_184
theorem r141_185 (d : Nat) (ls st : List Value) (σ : am_St) (τ : Int64) (k : Nat) (a0 : Int64) (hk : am_kc k = 10) (hc : am_cats st ≤ 8) : am_run (d + 1) 141 185 ls (.long a0 :: .ref k :: st) σ τ = (am_call d 140 [.ref k, .long a0] σ τ).bind (fun r => am_run (d + 1) 141 188 ls (r.1.toList ++ st) r.2.1 r.2.2) := rr_invv [.long a0] dX10_digest_185 (by decide +kernel) (by decide) rfl (Nat.le_of_ble_eq_true rfl) hk hc
theorem r141_188 (d : Nat) (st : List Value) (σ : am_St) (τ : Int64) (x : Int32) (v0 v1 v2 v4 : Value) : am_run d 141 188 [v0, v1, v2, .int x, v4] st σ τ = am_run d 141 191 [v0, v1, am_nl v2, .int (x + 1), v4] st σ τ := rr_iinc 1 _ dX10_digest_188 rfl (by decide) (by decide) (by first | rfl | (by_cases h : v2.category = 2 <;> simp [am_set1, am_nl, h]))
theorem r141_191 (d : Nat) (ls st : List Value) (σ : am_St) (τ : Int64) : am_run d 141 191 ls st σ τ = am_run d 141 172 ls st σ τ := rr_goto 172 dX10_digest_191 (by decide)
theorem r141_194 (d : Nat) (ls st : List Value) (σ : am_St) (τ : Int64) : am_run d 141 194 ls st σ τ = am_run d 141 195 ls (.int 0 :: st) σ τ := rr_iconst 0 dX10_digest_194 (by decide)
theorem r141_195 (d : Nat) (st : List Value) (σ : am_St) (τ : Int64) (x : Int32) (v0 v1 v2 v3 v4 : Value) : am_run d 141 195 [v0, v1, v2, v3, v4] (.int x :: st) σ τ = am_run d 141 196 [v0, v1, am_nl v2, .int x, v4] st σ τ := rr_istore_n _ dX10_digest_195 (by decide) (by first | rfl | (by_cases h : v2.category = 2 <;> simp [am_set1, am_nl, h]))
theorem r141_196 (d : Nat) (st : List Value) (σ : am_St) (τ : Int64) (x : Int32) (v0 v1 v2 v4 : Value) : am_run d 141 196 [v0, v1, v2, .int x, v4] st σ τ = am_run d 141 197 [v0, v1, v2, .int x, v4] (.int x :: st) σ τ := rr_iload_n dX10_digest_196 rfl
theorem r141_197 (d : Nat) (st : List Value) (σ : am_St) (τ : Int64) (x : Nat) (v1 v2 v3 v4 : Value) : am_run d 141 197 [.ref x, v1, v2, v3, v4] st σ τ = am_run d 141 198 [.ref x, v1, v2, v3, v4] (.ref x :: st) σ τ := rr_aload_n dX10_digest_197 rfl
theorem r141_198 (d : Nat) (ls st : List Value) (σ : am_St) (τ : Int64) (k : Nat) : am_run d 141 198 ls (.ref k :: st) σ τ = am_gf k 10 1 σ τ (fun v => am_run d 141 201 ls (v :: st) σ τ) := rr_getf dX10_digest_198 (by decide +kernel)
theorem r141_201 (d : Nat) (ls st : List Value) (σ : am_St) (τ : Int64) (x y : Int32) : am_run d 141 201 ls (.int y :: .int x :: st) σ τ = if y ≤ x then am_run d 141 221 ls st σ τ else am_run d 141 204 ls st σ τ := (rr_icmp 221 dX10_digest_201 (by decide)).trans am_sel
theorem r141_204 (d : Nat) (st : List Value) (σ : am_St) (τ : Int64) (x : Nat) (v1 v2 v3 v4 : Value) : am_run d 141 204 [.ref x, v1, v2, v3, v4] st σ τ = am_run d 141 205 [.ref x, v1, v2, v3, v4] (.ref x :: st) σ τ := rr_aload_n dX10_digest_204 rfl
theorem r141_205 (d : Nat) (st : List Value) (σ : am_St) (τ : Int64) (x : Nat) (v1 v2 v3 v4 : Value) : am_run d 141 205 [.ref x, v1, v2, v3, v4] st σ τ = am_run d 141 206 [.ref x, v1, v2, v3, v4] (.ref x :: st) σ τ := rr_aload_n dX10_digest_205 rfl
theorem r141_206 (d : Nat) (ls st : List Value) (σ : am_St) (τ : Int64) (k : Nat) : am_run d 141 206 ls (.ref k :: st) σ τ = am_gf k 10 0 σ τ (fun v => am_run d 141 209 ls (v :: st) σ τ) := rr_getf dX10_digest_206 (by decide +kernel)
theorem r141_209 (d : Nat) (st : List Value) (σ : am_St) (τ : Int64) (x : Int32) (v0 v1 v2 v4 : Value) : am_run d 141 209 [v0, v1, v2, .int x, v4] st σ τ = am_run d 141 210 [v0, v1, v2, .int x, v4] (.int x :: st) σ τ := rr_iload_n dX10_digest_209 rfl
theorem r141_210 (d : Nat) (ls st : List Value) (σ : am_St) (τ : Int64) (i : Int32) (k : Nat) : am_run d 141 210 ls (.int i :: .ref k :: st) σ τ = am_ai false k i (fun j => am_run d 141 211 ls (.int (σ k j) :: st) σ τ) := rr_iald dX10_digest_210
theorem r141_211 (d : Nat) (ls st : List Value) (σ : am_St) (τ : Int64) (x : Int32) : am_run d 141 211 ls (.int x :: st) σ τ = am_run d 141 212 ls (.long x.toInt64 :: st) σ τ := rr_i2l dX10_digest_211
theorem r141_212 (d : Nat) (ls st : List Value) (σ : am_St) (τ : Int64) (k : Nat) (a0 : Int64) (hk : am_kc k = 10) (hc : am_cats st ≤ 8) : am_run (d + 1) 141 212 ls (.long a0 :: .ref k :: st) σ τ = (am_call d 140 [.ref k, .long a0] σ τ).bind (fun r => am_run (d + 1) 141 215 ls (r.1.toList ++ st) r.2.1 r.2.2) := rr_invv [.long a0] dX10_digest_212 (by decide +kernel) (by decide) rfl (Nat.le_of_ble_eq_true rfl) hk hc
theorem r141_215 (d : Nat) (st : List Value) (σ : am_St) (τ : Int64) (x : Int32) (v0 v1 v2 v4 : Value) : am_run d 141 215 [v0, v1, v2, .int x, v4] st σ τ = am_run d 141 218 [v0, v1, am_nl v2, .int (x + 1), v4] st σ τ := rr_iinc 1 _ dX10_digest_215 rfl (by decide) (by decide) (by first | rfl | (by_cases h : v2.category = 2 <;> simp [am_set1, am_nl, h]))
theorem r141_218 (d : Nat) (ls st : List Value) (σ : am_St) (τ : Int64) : am_run d 141 218 ls st σ τ = am_run d 141 196 ls st σ τ := rr_goto 196 dX10_digest_218 (by decide)
theorem r141_221 (d : Nat) (ls st : List Value) (σ : am_St) (τ : Int64) : am_run d 141 221 ls st σ τ = am_run d 141 222 ls (.int 0 :: st) σ τ := rr_iconst 0 dX10_digest_221 (by decide)
theorem r141_222 (d : Nat) (st : List Value) (σ : am_St) (τ : Int64) (x : Int32) (v0 v1 v2 v3 v4 : Value) : am_run d 141 222 [v0, v1, v2, v3, v4] (.int x :: st) σ τ = am_run d 141 223 [v0, v1, am_nl v2, .int x, v4] st σ τ := rr_istore_n _ dX10_digest_222 (by decide) (by first | rfl | (by_cases h : v2.category = 2 <;> simp [am_set1, am_nl, h]))
theorem r141_223 (d : Nat) (st : List Value) (σ : am_St) (τ : Int64) (x : Int32) (v0 v1 v2 v4 : Value) : am_run d 141 223 [v0, v1, v2, .int x, v4] st σ τ = am_run d 141 224 [v0, v1, v2, .int x, v4] (.int x :: st) σ τ := rr_iload_n dX10_digest_223 rfl
theorem r141_224 (d : Nat) (ls st : List Value) (σ : am_St) (τ : Int64) : am_run d 141 224 ls st σ τ = am_run d 141 226 ls (.int 7 :: st) σ τ := rr_bipush 7 dX10_digest_224 (by decide)
theorem r141_226 (d : Nat) (ls st : List Value) (σ : am_St) (τ : Int64) (x y : Int32) : am_run d 141 226 ls (.int y :: .int x :: st) σ τ = if y ≤ x then am_run d 141 245 ls st σ τ else am_run d 141 229 ls st σ τ := (rr_icmp 245 dX10_digest_226 (by decide)).trans am_sel
theorem r141_229 (d : Nat) (st : List Value) (σ : am_St) (τ : Int64) (x : Nat) (v1 v2 v3 v4 : Value) : am_run d 141 229 [.ref x, v1, v2, v3, v4] st σ τ = am_run d 141 230 [.ref x, v1, v2, v3, v4] (.ref x :: st) σ τ := rr_aload_n dX10_digest_229 rfl
theorem r141_230 (d : Nat) (st : List Value) (σ : am_St) (τ : Int64) (x : Nat) (v1 v2 v3 v4 : Value) : am_run d 141 230 [.ref x, v1, v2, v3, v4] st σ τ = am_run d 141 231 [.ref x, v1, v2, v3, v4] (.ref x :: st) σ τ := rr_aload_n dX10_digest_230 rfl
theorem r141_231 (d : Nat) (st : List Value) (σ : am_St) (τ : Int64) (x : Int32) (v0 v1 v2 v4 : Value) : am_run d 141 231 [v0, v1, v2, .int x, v4] st σ τ = am_run d 141 232 [v0, v1, v2, .int x, v4] (.int x :: st) σ τ := rr_iload_n dX10_digest_231 rfl
theorem r141_232 (d : Nat) (ls st : List Value) (σ : am_St) (τ : Int64) (k : Nat) (a0 : Int32) (hk : am_kc k = 10) (hc : am_cats st ≤ 8) : am_run (d + 1) 141 232 ls (.int a0 :: .ref k :: st) σ τ = (am_call d 138 [.ref k, .int a0] σ τ).bind (fun r => am_run (d + 1) 141 235 ls (r.1.toList ++ st) r.2.1 r.2.2) := rr_invv [.int a0] dX10_digest_232 (by decide +kernel) (by decide) rfl (Nat.le_of_ble_eq_true rfl) hk hc
theorem r141_235 (d : Nat) (ls st : List Value) (σ : am_St) (τ : Int64) (x : Int32) : am_run d 141 235 ls (.int x :: st) σ τ = am_run d 141 236 ls (.long x.toInt64 :: st) σ τ := rr_i2l dX10_digest_235
theorem r141_236 (d : Nat) (ls st : List Value) (σ : am_St) (τ : Int64) (k : Nat) (a0 : Int64) (hk : am_kc k = 10) (hc : am_cats st ≤ 8) : am_run (d + 1) 141 236 ls (.long a0 :: .ref k :: st) σ τ = (am_call d 140 [.ref k, .long a0] σ τ).bind (fun r => am_run (d + 1) 141 239 ls (r.1.toList ++ st) r.2.1 r.2.2) := rr_invv [.long a0] dX10_digest_236 (by decide +kernel) (by decide) rfl (Nat.le_of_ble_eq_true rfl) hk hc
theorem r141_239 (d : Nat) (st : List Value) (σ : am_St) (τ : Int64) (x : Int32) (v0 v1 v2 v4 : Value) : am_run d 141 239 [v0, v1, v2, .int x, v4] st σ τ = am_run d 141 242 [v0, v1, am_nl v2, .int (x + 1), v4] st σ τ := rr_iinc 1 _ dX10_digest_239 rfl (by decide) (by decide) (by first | rfl | (by_cases h : v2.category = 2 <;> simp [am_set1, am_nl, h]))
theorem r141_242 (d : Nat) (ls st : List Value) (σ : am_St) (τ : Int64) : am_run d 141 242 ls st σ τ = am_run d 141 223 ls st σ τ := rr_goto 223 dX10_digest_242 (by decide)
theorem r141_245 (d : Nat) (st : List Value) (σ : am_St) (τ : Int64) (x : Nat) (v1 v2 v3 v4 : Value) : am_run d 141 245 [.ref x, v1, v2, v3, v4] st σ τ = am_run d 141 246 [.ref x, v1, v2, v3, v4] (.ref x :: st) σ τ := rr_aload_n dX10_digest_245 rfl
theorem r141_246 (d : Nat) (ls st : List Value) (σ : am_St) (τ : Int64) (k : Nat) : am_run d 141 246 ls (.ref k :: st) σ τ = am_gf k 10 35 σ τ (fun v => am_run d 141 249 ls (v :: st) σ τ) := rr_getf dX10_digest_246 (by decide +kernel)
theorem r141_249 (d : Nat) (ls : List Value) (σ : am_St) (τ : Int64) (x : Int64) : am_run d 141 249 ls [.long x] σ τ = some (some (.long x), σ, τ) := rr_lret dX10_digest_249 rfl
