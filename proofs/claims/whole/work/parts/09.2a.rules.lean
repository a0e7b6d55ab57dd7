theorem dX7_give_0 : decode (am_code 35) 0 = .ok (.iconst 0, 1) := by decide +kernel
theorem dX7_give_1 : decode (am_code 35) 1 = .ok (.istore 4, 2) := by decide +kernel
theorem dX7_give_3 : decode (am_code 35) 3 = .ok (.iload 4, 2) := by decide +kernel
theorem dX7_give_5 : decode (am_code 35) 5 = .ok (.aload_n 0, 1) := by decide +kernel
theorem dX7_give_6 : decode (am_code 35) 6 = .ok (.getfield 18, 3) := by decide +kernel
theorem dX7_give_9 : decode (am_code 35) 9 = .ok (.getfield 22, 3) := by decide +kernel
theorem dX7_give_12 : decode (am_code 35) 12 = .ok (.if_icmp .ge 88, 3) := by decide +kernel
theorem dX7_give_15 : decode (am_code 35) 15 = .ok (.aload_n 1, 1) := by decide +kernel
theorem dX7_give_16 : decode (am_code 35) 16 = .ok (.iload 4, 2) := by decide +kernel
theorem dX7_give_18 : decode (am_code 35) 18 = .ok (.iaload, 1) := by decide +kernel
theorem dX7_give_19 : decode (am_code 35) 19 = .ok (.ifCond .lt 16, 3) := by decide +kernel
theorem dX7_give_22 : decode (am_code 35) 22 = .ok (.aload_n 0, 1) := by decide +kernel
theorem dX7_give_23 : decode (am_code 35) 23 = .ok (.getfield 18, 3) := by decide +kernel
theorem dX7_give_26 : decode (am_code 35) 26 = .ok (.getfield 28, 3) := by decide +kernel
theorem dX7_give_29 : decode (am_code 35) 29 = .ok (.iload 4, 2) := by decide +kernel
theorem dX7_give_31 : decode (am_code 35) 31 = .ok (.iaload, 1) := by decide +kernel
theorem dX7_give_32 : decode (am_code 35) 32 = .ok (.ifCond .ge 25, 3) := by decide +kernel
theorem dX7_give_35 : decode (am_code 35) 35 = .ok (.aload_n 0, 1) := by decide +kernel
theorem dX7_give_36 : decode (am_code 35) 36 = .ok (.getfield 9, 3) := by decide +kernel
theorem dX7_give_39 : decode (am_code 35) 39 = .ok (.iload 4, 2) := by decide +kernel
theorem dX7_give_41 : decode (am_code 35) 41 = .ok (.aload_n 2, 1) := by decide +kernel
theorem dX7_give_42 : decode (am_code 35) 42 = .ok (.iload 4, 2) := by decide +kernel
theorem dX7_give_44 : decode (am_code 35) 44 = .ok (.iaload, 1) := by decide +kernel
theorem dX7_give_45 : decode (am_code 35) 45 = .ok (.iastore, 1) := by decide +kernel
theorem dX7_give_46 : decode (am_code 35) 46 = .ok (.aload_n 0, 1) := by decide +kernel
theorem dX7_give_47 : decode (am_code 35) 47 = .ok (.getfield 15, 3) := by decide +kernel
theorem dX7_give_50 : decode (am_code 35) 50 = .ok (.iload 4, 2) := by decide +kernel
theorem dX7_give_52 : decode (am_code 35) 52 = .ok (.iconst 1, 1) := by decide +kernel
theorem dX7_give_53 : decode (am_code 35) 53 = .ok (.iastore, 1) := by decide +kernel
theorem dX7_give_54 : decode (am_code 35) 54 = .ok (.goto 40, 3) := by decide +kernel
theorem dX7_give_57 : decode (am_code 35) 57 = .ok (.aload_n 0, 1) := by decide +kernel
theorem dX7_give_58 : decode (am_code 35) 58 = .ok (.getfield 9, 3) := by decide +kernel
theorem dX7_give_61 : decode (am_code 35) 61 = .ok (.iload 4, 2) := by decide +kernel
theorem dX7_give_63 : decode (am_code 35) 63 = .ok (.aload_n 0, 1) := by decide +kernel
theorem dX7_give_64 : decode (am_code 35) 64 = .ok (.iload 4, 2) := by decide +kernel
theorem dX7_give_66 : decode (am_code 35) 66 = .ok (.aload_n 1, 1) := by decide +kernel
theorem dX7_give_67 : decode (am_code 35) 67 = .ok (.aload_n 3, 1) := by decide +kernel
theorem dX7_give_68 : decode (am_code 35) 68 = .ok (.invokevirtual 31, 3) := by decide +kernel
theorem dX7_give_71 : decode (am_code 35) 71 = .ok (.iastore, 1) := by decide +kernel
theorem dX7_give_72 : decode (am_code 35) 72 = .ok (.aload_n 0, 1) := by decide +kernel
theorem dX7_give_73 : decode (am_code 35) 73 = .ok (.getfield 15, 3) := by decide +kernel
theorem dX7_give_76 : decode (am_code 35) 76 = .ok (.iload 4, 2) := by decide +kernel
theorem dX7_give_78 : decode (am_code 35) 78 = .ok (.aload_n 0, 1) := by decide +kernel
theorem dX7_give_79 : decode (am_code 35) 79 = .ok (.aload_n 1, 1) := by decide +kernel
theorem dX7_give_80 : decode (am_code 35) 80 = .ok (.iload 4, 2) := by decide +kernel
theorem dX7_give_82 : decode (am_code 35) 82 = .ok (.iaload, 1) := by decide +kernel
theorem dX7_give_83 : decode (am_code 35) 83 = .ok (.aload_n 0, 1) := by decide +kernel
theorem dX7_give_84 : decode (am_code 35) 84 = .ok (.getfield 9, 3) := by decide +kernel
theorem dX7_give_87 : decode (am_code 35) 87 = .ok (.iload 4, 2) := by decide +kernel
theorem dX7_give_89 : decode (am_code 35) 89 = .ok (.iaload, 1) := by decide +kernel
theorem dX7_give_90 : decode (am_code 35) 90 = .ok (.invokevirtual 35, 3) := by decide +kernel
theorem dX7_give_93 : decode (am_code 35) 93 = .ok (.iastore, 1) := by decide +kernel
theorem dX7_give_94 : decode (am_code 35) 94 = .ok (.iinc 4 1, 3) := by decide +kernel
theorem dX7_give_97 : decode (am_code 35) 97 = .ok (.goto (-94), 3) := by decide +kernel
theorem dX7_give_100 : decode (am_code 35) 100 = .ok (.return_, 1) := by decide +kernel
theorem r35_0 (d : Nat) (ls st : List Value) (σ : am_St) (τ : Int64) : am_run d 35 0 ls st σ τ = am_run d 35 1 ls (.int 0 :: st) σ τ := rr_iconst 0 dX7_give_0 (by decide)
theorem r35_1 (d : Nat) (st : List Value) (σ : am_St) (τ : Int64) (x : Int32) (v0 v1 v2 v3 v4 : Value) : am_run d 35 1 [v0, v1, v2, v3, v4] (.int x :: st) σ τ = am_run d 35 3 [v0, v1, v2, am_nl v3, .int x] st σ τ := rr_istore _ dX7_give_1 (by decide) (by first | rfl | (by_cases h : v3.category = 2 <;> simp [am_set1, am_nl, h]))
theorem r35_3 (d : Nat) (st : List Value) (σ : am_St) (τ : Int64) (x : Int32) (v0 v1 v2 v3 : Value) : am_run d 35 3 [v0, v1, v2, v3, .int x] st σ τ = am_run d 35 5 [v0, v1, v2, v3, .int x] (.int x :: st) σ τ := rr_iload dX7_give_3 rfl
theorem r35_5 (d : Nat) (st : List Value) (σ : am_St) (τ : Int64) (x : Nat) (v1 v2 v3 v4 : Value) : am_run d 35 5 [.ref x, v1, v2, v3, v4] st σ τ = am_run d 35 6 [.ref x, v1, v2, v3, v4] (.ref x :: st) σ τ := rr_aload_n dX7_give_5 rfl
theorem r35_6 (d : Nat) (ls st : List Value) (σ : am_St) (τ : Int64) (k : Nat) : am_run d 35 6 ls (.ref k :: st) σ τ = am_gf k 7 2 σ τ (fun v => am_run d 35 9 ls (v :: st) σ τ) := rr_getf dX7_give_6 (by decide +kernel)
theorem r35_9 (d : Nat) (ls st : List Value) (σ : am_St) (τ : Int64) (k : Nat) : am_run d 35 9 ls (.ref k :: st) σ τ = am_gf k 1 0 σ τ (fun v => am_run d 35 12 ls (v :: st) σ τ) := rr_getf dX7_give_9 (by decide +kernel)
theorem r35_12 (d : Nat) (ls st : List Value) (σ : am_St) (τ : Int64) (x y : Int32) : am_run d 35 12 ls (.int y :: .int x :: st) σ τ = if y ≤ x then am_run d 35 100 ls st σ τ else am_run d 35 15 ls st σ τ := (rr_icmp 100 dX7_give_12 (by decide)).trans am_sel
theorem r35_15 (d : Nat) (st : List Value) (σ : am_St) (τ : Int64) (x : Nat) (v0 v2 v3 v4 : Value) : am_run d 35 15 [v0, .ref x, v2, v3, v4] st σ τ = am_run d 35 16 [v0, .ref x, v2, v3, v4] (.ref x :: st) σ τ := rr_aload_n dX7_give_15 rfl
theorem r35_16 (d : Nat) (st : List Value) (σ : am_St) (τ : Int64) (x : Int32) (v0 v1 v2 v3 : Value) : am_run d 35 16 [v0, v1, v2, v3, .int x] st σ τ = am_run d 35 18 [v0, v1, v2, v3, .int x] (.int x :: st) σ τ := rr_iload dX7_give_16 rfl
theorem r35_18 (d : Nat) (ls st : List Value) (σ : am_St) (τ : Int64) (i : Int32) (k : Nat) : am_run d 35 18 ls (.int i :: .ref k :: st) σ τ = am_ai false k i (fun j => am_run d 35 19 ls (.int (σ k j) :: st) σ τ) := rr_iald dX7_give_18
theorem r35_19 (d : Nat) (ls st : List Value) (σ : am_St) (τ : Int64) (x : Int32) : am_run d 35 19 ls (.int x :: st) σ τ = if x < 0 then am_run d 35 35 ls st σ τ else am_run d 35 22 ls st σ τ := (rr_if 35 dX7_give_19 (by decide)).trans am_sel
theorem r35_22 (d : Nat) (st : List Value) (σ : am_St) (τ : Int64) (x : Nat) (v1 v2 v3 v4 : Value) : am_run d 35 22 [.ref x, v1, v2, v3, v4] st σ τ = am_run d 35 23 [.ref x, v1, v2, v3, v4] (.ref x :: st) σ τ := rr_aload_n dX7_give_22 rfl
theorem r35_23 (d : Nat) (ls st : List Value) (σ : am_St) (τ : Int64) (k : Nat) : am_run d 35 23 ls (.ref k :: st) σ τ = am_gf k 7 2 σ τ (fun v => am_run d 35 26 ls (v :: st) σ τ) := rr_getf dX7_give_23 (by decide +kernel)
theorem r35_26 (d : Nat) (ls st : List Value) (σ : am_St) (τ : Int64) (k : Nat) : am_run d 35 26 ls (.ref k :: st) σ τ = am_gf k 1 4 σ τ (fun v => am_run d 35 29 ls (v :: st) σ τ) := rr_getf dX7_give_26 (by decide +kernel)
theorem r35_29 (d : Nat) (st : List Value) (σ : am_St) (τ : Int64) (x : Int32) (v0 v1 v2 v3 : Value) : am_run d 35 29 [v0, v1, v2, v3, .int x] st σ τ = am_run d 35 31 [v0, v1, v2, v3, .int x] (.int x :: st) σ τ := rr_iload dX7_give_29 rfl
theorem r35_31 (d : Nat) (ls st : List Value) (σ : am_St) (τ : Int64) (i : Int32) (k : Nat) : am_run d 35 31 ls (.int i :: .ref k :: st) σ τ = am_ai false k i (fun j => am_run d 35 32 ls (.int (σ k j) :: st) σ τ) := rr_iald dX7_give_31
theorem r35_32 (d : Nat) (ls st : List Value) (σ : am_St) (τ : Int64) (x : Int32) : am_run d 35 32 ls (.int x :: st) σ τ = if 0 ≤ x then am_run d 35 57 ls st σ τ else am_run d 35 35 ls st σ τ := (rr_if 57 dX7_give_32 (by decide)).trans am_sel
theorem r35_35 (d : Nat) (st : List Value) (σ : am_St) (τ : Int64) (x : Nat) (v1 v2 v3 v4 : Value) : am_run d 35 35 [.ref x, v1, v2, v3, v4] st σ τ = am_run d 35 36 [.ref x, v1, v2, v3, v4] (.ref x :: st) σ τ := rr_aload_n dX7_give_35 rfl
theorem r35_36 (d : Nat) (ls st : List Value) (σ : am_St) (τ : Int64) (k : Nat) : am_run d 35 36 ls (.ref k :: st) σ τ = am_gf k 7 0 σ τ (fun v => am_run d 35 39 ls (v :: st) σ τ) := rr_getf dX7_give_36 (by decide +kernel)
theorem r35_39 (d : Nat) (st : List Value) (σ : am_St) (τ : Int64) (x : Int32) (v0 v1 v2 v3 : Value) : am_run d 35 39 [v0, v1, v2, v3, .int x] st σ τ = am_run d 35 41 [v0, v1, v2, v3, .int x] (.int x :: st) σ τ := rr_iload dX7_give_39 rfl
theorem r35_41 (d : Nat) (st : List Value) (σ : am_St) (τ : Int64) (x : Nat) (v0 v1 v3 v4 : Value) : am_run d 35 41 [v0, v1, .ref x, v3, v4] st σ τ = am_run d 35 42 [v0, v1, .ref x, v3, v4] (.ref x :: st) σ τ := rr_aload_n dX7_give_41 rfl
theorem r35_42 (d : Nat) (st : List Value) (σ : am_St) (τ : Int64) (x : Int32) (v0 v1 v2 v3 : Value) : am_run d 35 42 [v0, v1, v2, v3, .int x] st σ τ = am_run d 35 44 [v0, v1, v2, v3, .int x] (.int x :: st) σ τ := rr_iload dX7_give_42 rfl
theorem r35_44 (d : Nat) (ls st : List Value) (σ : am_St) (τ : Int64) (i : Int32) (k : Nat) : am_run d 35 44 ls (.int i :: .ref k :: st) σ τ = am_ai false k i (fun j => am_run d 35 45 ls (.int (σ k j) :: st) σ τ) := rr_iald dX7_give_44
theorem r35_45 (d : Nat) (ls st : List Value) (σ : am_St) (τ : Int64) (x i : Int32) (k : Nat) : am_run d 35 45 ls (.int x :: .int i :: .ref k :: st) σ τ = am_ai false k i (fun j => am_run d 35 46 ls st (am_up σ k j x) τ) := rr_iast dX7_give_45
theorem r35_46 (d : Nat) (st : List Value) (σ : am_St) (τ : Int64) (x : Nat) (v1 v2 v3 v4 : Value) : am_run d 35 46 [.ref x, v1, v2, v3, v4] st σ τ = am_run d 35 47 [.ref x, v1, v2, v3, v4] (.ref x :: st) σ τ := rr_aload_n dX7_give_46 rfl
theorem r35_47 (d : Nat) (ls st : List Value) (σ : am_St) (τ : Int64) (k : Nat) : am_run d 35 47 ls (.ref k :: st) σ τ = am_gf k 7 1 σ τ (fun v => am_run d 35 50 ls (v :: st) σ τ) := rr_getf dX7_give_47 (by decide +kernel)
theorem r35_50 (d : Nat) (st : List Value) (σ : am_St) (τ : Int64) (x : Int32) (v0 v1 v2 v3 : Value) : am_run d 35 50 [v0, v1, v2, v3, .int x] st σ τ = am_run d 35 52 [v0, v1, v2, v3, .int x] (.int x :: st) σ τ := rr_iload dX7_give_50 rfl
theorem r35_52 (d : Nat) (ls st : List Value) (σ : am_St) (τ : Int64) : am_run d 35 52 ls st σ τ = am_run d 35 53 ls (.int 1 :: st) σ τ := rr_iconst 1 dX7_give_52 (by decide)
theorem r35_53 (d : Nat) (ls st : List Value) (σ : am_St) (τ : Int64) (x i : Int32) (k : Nat) : am_run d 35 53 ls (.int x :: .int i :: .ref k :: st) σ τ = am_ai false k i (fun j => am_run d 35 54 ls st (am_up σ k j x) τ) := rr_iast dX7_give_53
theorem r35_54 (d : Nat) (ls st : List Value) (σ : am_St) (τ : Int64) : am_run d 35 54 ls st σ τ = am_run d 35 94 ls st σ τ := rr_goto 94 dX7_give_54 (by decide)
theorem r35_57 (d : Nat) (st : List Value) (σ : am_St) (τ : Int64) (x : Nat) (v1 v2 v3 v4 : Value) : am_run d 35 57 [.ref x, v1, v2, v3, v4] st σ τ = am_run d 35 58 [.ref x, v1, v2, v3, v4] (.ref x :: st) σ τ := rr_aload_n dX7_give_57 rfl
theorem r35_58 (d : Nat) (ls st : List Value) (σ : am_St) (τ : Int64) (k : Nat) : am_run d 35 58 ls (.ref k :: st) σ τ = am_gf k 7 0 σ τ (fun v => am_run d 35 61 ls (v :: st) σ τ) := rr_getf dX7_give_58 (by decide +kernel)
theorem r35_61 (d : Nat) (st : List Value) (σ : am_St) (τ : Int64) (x : Int32) (v0 v1 v2 v3 : Value) : am_run d 35 61 [v0, v1, v2, v3, .int x] st σ τ = am_run d 35 63 [v0, v1, v2, v3, .int x] (.int x :: st) σ τ := rr_iload dX7_give_61 rfl
theorem r35_63 (d : Nat) (st : List Value) (σ : am_St) (τ : Int64) (x : Nat) (v1 v2 v3 v4 : Value) : am_run d 35 63 [.ref x, v1, v2, v3, v4] st σ τ = am_run d 35 64 [.ref x, v1, v2, v3, v4] (.ref x :: st) σ τ := rr_aload_n dX7_give_63 rfl
theorem r35_64 (d : Nat) (st : List Value) (σ : am_St) (τ : Int64) (x : Int32) (v0 v1 v2 v3 : Value) : am_run d 35 64 [v0, v1, v2, v3, .int x] st σ τ = am_run d 35 66 [v0, v1, v2, v3, .int x] (.int x :: st) σ τ := rr_iload dX7_give_64 rfl
theorem r35_66 (d : Nat) (st : List Value) (σ : am_St) (τ : Int64) (x : Nat) (v0 v2 v3 v4 : Value) : am_run d 35 66 [v0, .ref x, v2, v3, v4] st σ τ = am_run d 35 67 [v0, .ref x, v2, v3, v4] (.ref x :: st) σ τ := rr_aload_n dX7_give_66 rfl
theorem r35_67 (d : Nat) (st : List Value) (σ : am_St) (τ : Int64) (x : Nat) (v0 v1 v2 v4 : Value) : am_run d 35 67 [v0, v1, v2, .ref x, v4] st σ τ = am_run d 35 68 [v0, v1, v2, .ref x, v4] (.ref x :: st) σ τ := rr_aload_n dX7_give_67 rfl
theorem r35_68 (d : Nat) (ls st : List Value) (σ : am_St) (τ : Int64) (k : Nat) (a0 : Int32) (a1 : Nat) (a2 : Nat) (hk : am_kc k = 7) (hc : am_cats st ≤ 8) : am_run (d + 1) 35 68 ls (.ref a2 :: .ref a1 :: .int a0 :: .ref k :: st) σ τ = (am_call d 36 [.ref k, .int a0, .ref a1, .ref a2] σ τ).bind (fun r => am_run (d + 1) 35 71 ls (r.1.toList ++ st) r.2.1 r.2.2) := rr_invv [.int a0, .ref a1, .ref a2] dX7_give_68 (by decide +kernel) (by decide) rfl (Nat.le_of_ble_eq_true rfl) hk hc
theorem r35_71 (d : Nat) (ls st : List Value) (σ : am_St) (τ : Int64) (x i : Int32) (k : Nat) : am_run d 35 71 ls (.int x :: .int i :: .ref k :: st) σ τ = am_ai false k i (fun j => am_run d 35 72 ls st (am_up σ k j x) τ) := rr_iast dX7_give_71
theorem r35_72 (d : Nat) (st : List Value) (σ : am_St) (τ : Int64) (x : Nat) (v1 v2 v3 v4 : Value) : am_run d 35 72 [.ref x, v1, v2, v3, v4] st σ τ = am_run d 35 73 [.ref x, v1, v2, v3, v4] (.ref x :: st) σ τ := rr_aload_n dX7_give_72 rfl
theorem r35_73 (d : Nat) (ls st : List Value) (σ : am_St) (τ : Int64) (k : Nat) : am_run d 35 73 ls (.ref k :: st) σ τ = am_gf k 7 1 σ τ (fun v => am_run d 35 76 ls (v :: st) σ τ) := rr_getf dX7_give_73 (by decide +kernel)
theorem r35_76 (d : Nat) (st : List Value) (σ : am_St) (τ : Int64) (x : Int32) (v0 v1 v2 v3 : Value) : am_run d 35 76 [v0, v1, v2, v3, .int x] st σ τ = am_run d 35 78 [v0, v1, v2, v3, .int x] (.int x :: st) σ τ := rr_iload dX7_give_76 rfl
theorem r35_78 (d : Nat) (st : List Value) (σ : am_St) (τ : Int64) (x : Nat) (v1 v2 v3 v4 : Value) : am_run d 35 78 [.ref x, v1, v2, v3, v4] st σ τ = am_run d 35 79 [.ref x, v1, v2, v3, v4] (.ref x :: st) σ τ := rr_aload_n dX7_give_78 rfl
theorem r35_79 (d : Nat) (st : List Value) (σ : am_St) (τ : Int64) (x : Nat) (v0 v2 v3 v4 : Value) : am_run d 35 79 [v0, .ref x, v2, v3, v4] st σ τ = am_run d 35 80 [v0, .ref x, v2, v3, v4] (.ref x :: st) σ τ := rr_aload_n dX7_give_79 rfl
theorem r35_80 (d : Nat) (st : List Value) (σ : am_St) (τ : Int64) (x : Int32) (v0 v1 v2 v3 : Value) : am_run d 35 80 [v0, v1, v2, v3, .int x] st σ τ = am_run d 35 82 [v0, v1, v2, v3, .int x] (.int x :: st) σ τ := rr_iload dX7_give_80 rfl
theorem r35_82 (d : Nat) (ls st : List Value) (σ : am_St) (τ : Int64) (i : Int32) (k : Nat) : am_run d 35 82 ls (.int i :: .ref k :: st) σ τ = am_ai false k i (fun j => am_run d 35 83 ls (.int (σ k j) :: st) σ τ) := rr_iald dX7_give_82
theorem r35_83 (d : Nat) (st : List Value) (σ : am_St) (τ : Int64) (x : Nat) (v1 v2 v3 v4 : Value) : am_run d 35 83 [.ref x, v1, v2, v3, v4] st σ τ = am_run d 35 84 [.ref x, v1, v2, v3, v4] (.ref x :: st) σ τ := rr_aload_n dX7_give_83 rfl
theorem r35_84 (d : Nat) (ls st : List Value) (σ : am_St) (τ : Int64) (k : Nat) : am_run d 35 84 ls (.ref k :: st) σ τ = am_gf k 7 0 σ τ (fun v => am_run d 35 87 ls (v :: st) σ τ) := rr_getf dX7_give_84 (by decide +kernel)
theorem r35_87 (d : Nat) (st : List Value) (σ : am_St) (τ : Int64) (x : Int32) (v0 v1 v2 v3 : Value) : am_run d 35 87 [v0, v1, v2, v3, .int x] st σ τ = am_run d 35 89 [v0, v1, v2, v3, .int x] (.int x :: st) σ τ := rr_iload dX7_give_87 rfl
theorem r35_89 (d : Nat) (ls st : List Value) (σ : am_St) (τ : Int64) (i : Int32) (k : Nat) : am_run d 35 89 ls (.int i :: .ref k :: st) σ τ = am_ai false k i (fun j => am_run d 35 90 ls (.int (σ k j) :: st) σ τ) := rr_iald dX7_give_89
theorem r35_90 (d : Nat) (ls st : List Value) (σ : am_St) (τ : Int64) (k : Nat) (a0 : Int32) (a1 : Int32) (hk : am_kc k = 7) (hc : am_cats st ≤ 8) : am_run (d + 1) 35 90 ls (.int a1 :: .int a0 :: .ref k :: st) σ τ = (am_call d 38 [.ref k, .int a0, .int a1] σ τ).bind (fun r => am_run (d + 1) 35 93 ls (r.1.toList ++ st) r.2.1 r.2.2) := rr_invv [.int a0, .int a1] dX7_give_90 (by decide +kernel) (by decide) rfl (Nat.le_of_ble_eq_true rfl) hk hc
theorem r35_93 (d : Nat) (ls st : List Value) (σ : am_St) (τ : Int64) (x i : Int32) (k : Nat) : am_run d 35 93 ls (.int x :: .int i :: .ref k :: st) σ τ = am_ai false k i (fun j => am_run d 35 94 ls st (am_up σ k j x) τ) := rr_iast dX7_give_93
theorem r35_94 (d : Nat) (st : List Value) (σ : am_St) (τ : Int64) (x : Int32) (v0 v1 v2 v3 : Value) : am_run d 35 94 [v0, v1, v2, v3, .int x] st σ τ = am_run d 35 97 [v0, v1, v2, am_nl v3, .int (x + 1)] st σ τ := rr_iinc 1 _ dX7_give_94 rfl (by decide) (by decide) (by first | rfl | (by_cases h : v3.category = 2 <;> simp [am_set1, am_nl, h]))
theorem r35_97 (d : Nat) (ls st : List Value) (σ : am_St) (τ : Int64) : am_run d 35 97 ls st σ τ = am_run d 35 3 ls st σ τ := rr_goto 3 dX7_give_97 (by decide)
theorem r35_100 (d : Nat) (ls : List Value) (σ : am_St) (τ : Int64) : am_run d 35 100 ls [] σ τ = some (none, σ, τ) := rr_vret dX7_give_100 rfl
theorem dX7_ofOneWithParents_0 : decode (am_code 36) 0 = .ok (.aload_n 0, 1) := by decide +kernel
theorem dX7_ofOneWithParents_1 : decode (am_code 36) 1 = .ok (.getfield 18, 3) := by decide +kernel
theorem dX7_ofOneWithParents_4 : decode (am_code 36) 4 = .ok (.getfield 39, 3) := by decide +kernel
theorem dX7_ofOneWithParents_7 : decode (am_code 36) 7 = .ok (.iload_n 1, 1) := by decide +kernel
theorem dX7_ofOneWithParents_8 : decode (am_code 36) 8 = .ok (.iaload, 1) := by decide +kernel
theorem dX7_ofOneWithParents_9 : decode (am_code 36) 9 = .ok (.iconst 2, 1) := by decide +kernel
theorem dX7_ofOneWithParents_10 : decode (am_code 36) 10 = .ok (.if_icmp .eq 25, 3) := by decide +kernel
theorem dX7_ofOneWithParents_13 : decode (am_code 36) 13 = .ok (.aload_n 0, 1) := by decide +kernel
theorem dX7_ofOneWithParents_14 : decode (am_code 36) 14 = .ok (.getfield 18, 3) := by decide +kernel
theorem dX7_ofOneWithParents_17 : decode (am_code 36) 17 = .ok (.getfield 39, 3) := by decide +kernel
theorem dX7_ofOneWithParents_20 : decode (am_code 36) 20 = .ok (.iload_n 1, 1) := by decide +kernel
theorem dX7_ofOneWithParents_21 : decode (am_code 36) 21 = .ok (.iaload, 1) := by decide +kernel
theorem dX7_ofOneWithParents_22 : decode (am_code 36) 22 = .ok (.iconst 4, 1) := by decide +kernel
theorem dX7_ofOneWithParents_23 : decode (am_code 36) 23 = .ok (.if_icmp .ne 23, 3) := by decide +kernel
theorem dX7_ofOneWithParents_26 : decode (am_code 36) 26 = .ok (.aload_n 0, 1) := by decide +kernel
theorem dX7_ofOneWithParents_27 : decode (am_code 36) 27 = .ok (.iload_n 1, 1) := by decide +kernel
theorem dX7_ofOneWithParents_28 : decode (am_code 36) 28 = .ok (.aload_n 2, 1) := by decide +kernel
theorem dX7_ofOneWithParents_29 : decode (am_code 36) 29 = .ok (.invokevirtual 42, 3) := by decide +kernel
theorem dX7_ofOneWithParents_32 : decode (am_code 36) 32 = .ok (.ifCond .eq 14, 3) := by decide +kernel
theorem dX7_ofOneWithParents_35 : decode (am_code 36) 35 = .ok (.aload_n 0, 1) := by decide +kernel
theorem dX7_ofOneWithParents_36 : decode (am_code 36) 36 = .ok (.aload_n 3, 1) := by decide +kernel
theorem dX7_ofOneWithParents_37 : decode (am_code 36) 37 = .ok (.getfield 46, 3) := by decide +kernel
theorem dX7_ofOneWithParents_40 : decode (am_code 36) 40 = .ok (.iload_n 1, 1) := by decide +kernel
theorem dX7_ofOneWithParents_41 : decode (am_code 36) 41 = .ok (.aload_n 2, 1) := by decide +kernel
theorem dX7_ofOneWithParents_42 : decode (am_code 36) 42 = .ok (.invokevirtual 51, 3) := by decide +kernel
theorem dX7_ofOneWithParents_45 : decode (am_code 36) 45 = .ok (.ireturn, 1) := by decide +kernel
theorem dX7_ofOneWithParents_46 : decode (am_code 36) 46 = .ok (.aload_n 0, 1) := by decide +kernel
theorem dX7_ofOneWithParents_47 : decode (am_code 36) 47 = .ok (.getfield 18, 3) := by decide +kernel
theorem dX7_ofOneWithParents_50 : decode (am_code 36) 50 = .ok (.getfield 39, 3) := by decide +kernel
theorem dX7_ofOneWithParents_53 : decode (am_code 36) 53 = .ok (.iload_n 1, 1) := by decide +kernel
theorem dX7_ofOneWithParents_54 : decode (am_code 36) 54 = .ok (.iaload, 1) := by decide +kernel
theorem dX7_ofOneWithParents_55 : decode (am_code 36) 55 = .ok (.iconst 4, 1) := by decide +kernel
theorem dX7_ofOneWithParents_56 : decode (am_code 36) 56 = .ok (.if_icmp .ne 12, 3) := by decide +kernel
theorem dX7_ofOneWithParents_59 : decode (am_code 36) 59 = .ok (.aload_n 0, 1) := by decide +kernel
theorem dX7_ofOneWithParents_60 : decode (am_code 36) 60 = .ok (.getfield 9, 3) := by decide +kernel
theorem dX7_ofOneWithParents_63 : decode (am_code 36) 63 = .ok (.aload_n 2, 1) := by decide +kernel
theorem dX7_ofOneWithParents_64 : decode (am_code 36) 64 = .ok (.iload_n 1, 1) := by decide +kernel
theorem dX7_ofOneWithParents_65 : decode (am_code 36) 65 = .ok (.iaload, 1) := by decide +kernel
theorem dX7_ofOneWithParents_66 : decode (am_code 36) 66 = .ok (.iaload, 1) := by decide +kernel
theorem dX7_ofOneWithParents_67 : decode (am_code 36) 67 = .ok (.ireturn, 1) := by decide +kernel
theorem dX7_ofOneWithParents_68 : decode (am_code 36) 68 = .ok (.aload_n 0, 1) := by decide +kernel
theorem dX7_ofOneWithParents_69 : decode (am_code 36) 69 = .ok (.aload_n 3, 1) := by decide +kernel
theorem dX7_ofOneWithParents_70 : decode (am_code 36) 70 = .ok (.getfield 55, 3) := by decide +kernel
theorem dX7_ofOneWithParents_73 : decode (am_code 36) 73 = .ok (.iload_n 1, 1) := by decide +kernel
theorem dX7_ofOneWithParents_74 : decode (am_code 36) 74 = .ok (.aload_n 2, 1) := by decide +kernel
theorem dX7_ofOneWithParents_75 : decode (am_code 36) 75 = .ok (.invokevirtual 51, 3) := by decide +kernel
theorem dX7_ofOneWithParents_78 : decode (am_code 36) 78 = .ok (.istore 4, 2) := by decide +kernel
theorem dX7_ofOneWithParents_80 : decode (am_code 36) 80 = .ok (.aload_n 3, 1) := by decide +kernel
theorem dX7_ofOneWithParents_81 : decode (am_code 36) 81 = .ok (.getfield 58, 3) := by decide +kernel
theorem dX7_ofOneWithParents_84 : decode (am_code 36) 84 = .ok (.ifCond .le 23, 3) := by decide +kernel
theorem dX7_ofOneWithParents_87 : decode (am_code 36) 87 = .ok (.aload_n 0, 1) := by decide +kernel
theorem dX7_ofOneWithParents_88 : decode (am_code 36) 88 = .ok (.aload_n 2, 1) := by decide +kernel
theorem dX7_ofOneWithParents_89 : decode (am_code 36) 89 = .ok (.iload_n 1, 1) := by decide +kernel
theorem dX7_ofOneWithParents_90 : decode (am_code 36) 90 = .ok (.iaload, 1) := by decide +kernel
theorem dX7_ofOneWithParents_91 : decode (am_code 36) 91 = .ok (.iload 4, 2) := by decide +kernel
theorem dX7_ofOneWithParents_93 : decode (am_code 36) 93 = .ok (.invokevirtual 35, 3) := by decide +kernel
theorem dX7_ofOneWithParents_96 : decode (am_code 36) 96 = .ok (.aload_n 3, 1) := by decide +kernel
theorem dX7_ofOneWithParents_97 : decode (am_code 36) 97 = .ok (.getfield 58, 3) := by decide +kernel
theorem dX7_ofOneWithParents_100 : decode (am_code 36) 100 = .ok (.if_icmp .lt 7, 3) := by decide +kernel
theorem dX7_ofOneWithParents_103 : decode (am_code 36) 103 = .ok (.iconst 1, 1) := by decide +kernel
theorem dX7_ofOneWithParents_104 : decode (am_code 36) 104 = .ok (.goto 4, 3) := by decide +kernel
theorem dX7_ofOneWithParents_107 : decode (am_code 36) 107 = .ok (.iconst 0, 1) := by decide +kernel
theorem dX7_ofOneWithParents_108 : decode (am_code 36) 108 = .ok (.istore 5, 2) := by decide +kernel
theorem dX7_ofOneWithParents_110 : decode (am_code 36) 110 = .ok (.iload 5, 2) := by decide +kernel
theorem dX7_ofOneWithParents_112 : decode (am_code 36) 112 = .ok (.ifCond .eq 16, 3) := by decide +kernel
theorem dX7_ofOneWithParents_115 : decode (am_code 36) 115 = .ok (.aload_n 0, 1) := by decide +kernel
theorem dX7_ofOneWithParents_116 : decode (am_code 36) 116 = .ok (.aload_n 3, 1) := by decide +kernel
theorem dX7_ofOneWithParents_117 : decode (am_code 36) 117 = .ok (.getfield 61, 3) := by decide +kernel
theorem dX7_ofOneWithParents_120 : decode (am_code 36) 120 = .ok (.iload_n 1, 1) := by decide +kernel
theorem dX7_ofOneWithParents_121 : decode (am_code 36) 121 = .ok (.aload_n 2, 1) := by decide +kernel
theorem dX7_ofOneWithParents_122 : decode (am_code 36) 122 = .ok (.invokevirtual 51, 3) := by decide +kernel
theorem dX7_ofOneWithParents_125 : decode (am_code 36) 125 = .ok (.goto 5, 3) := by decide +kernel
theorem dX7_ofOneWithParents_128 : decode (am_code 36) 128 = .ok (.iload 4, 2) := by decide +kernel
theorem dX7_ofOneWithParents_130 : decode (am_code 36) 130 = .ok (.ireturn, 1) := by decide +kernel
theorem r36_0 (d : Nat) (st : List Value) (σ : am_St) (τ : Int64) (x : Nat) (v1 v2 v3 v4 v5 : Value) : am_run d 36 0 [.ref x, v1, v2, v3, v4, v5] st σ τ = am_run d 36 1 [.ref x, v1, v2, v3, v4, v5] (.ref x :: st) σ τ := rr_aload_n dX7_ofOneWithParents_0 rfl
theorem r36_1 (d : Nat) (ls st : List Value) (σ : am_St) (τ : Int64) (k : Nat) : am_run d 36 1 ls (.ref k :: st) σ τ = am_gf k 7 2 σ τ (fun v => am_run d 36 4 ls (v :: st) σ τ) := rr_getf dX7_ofOneWithParents_1 (by decide +kernel)
theorem r36_4 (d : Nat) (ls st : List Value) (σ : am_St) (τ : Int64) (k : Nat) : am_run d 36 4 ls (.ref k :: st) σ τ = am_gf k 1 1 σ τ (fun v => am_run d 36 7 ls (v :: st) σ τ) := rr_getf dX7_ofOneWithParents_4 (by decide +kernel)
theorem r36_7 (d : Nat) (st : List Value) (σ : am_St) (τ : Int64) (x : Int32) (v0 v2 v3 v4 v5 : Value) : am_run d 36 7 [v0, .int x, v2, v3, v4, v5] st σ τ = am_run d 36 8 [v0, .int x, v2, v3, v4, v5] (.int x :: st) σ τ := rr_iload_n dX7_ofOneWithParents_7 rfl
theorem r36_8 (d : Nat) (ls st : List Value) (σ : am_St) (τ : Int64) (i : Int32) (k : Nat) : am_run d 36 8 ls (.int i :: .ref k :: st) σ τ = am_ai false k i (fun j => am_run d 36 9 ls (.int (σ k j) :: st) σ τ) := rr_iald dX7_ofOneWithParents_8
theorem r36_9 (d : Nat) (ls st : List Value) (σ : am_St) (τ : Int64) : am_run d 36 9 ls st σ τ = am_run d 36 10 ls (.int 2 :: st) σ τ := rr_iconst 2 dX7_ofOneWithParents_9 (by decide)
theorem r36_10 (d : Nat) (ls st : List Value) (σ : am_St) (τ : Int64) (x y : Int32) : am_run d 36 10 ls (.int y :: .int x :: st) σ τ = if x = y then am_run d 36 35 ls st σ τ else am_run d 36 13 ls st σ τ := (rr_icmp 35 dX7_ofOneWithParents_10 (by decide)).trans am_sel
theorem r36_13 (d : Nat) (st : List Value) (σ : am_St) (τ : Int64) (x : Nat) (v1 v2 v3 v4 v5 : Value) : am_run d 36 13 [.ref x, v1, v2, v3, v4, v5] st σ τ = am_run d 36 14 [.ref x, v1, v2, v3, v4, v5] (.ref x :: st) σ τ := rr_aload_n dX7_ofOneWithParents_13 rfl
theorem r36_14 (d : Nat) (ls st : List Value) (σ : am_St) (τ : Int64) (k : Nat) : am_run d 36 14 ls (.ref k :: st) σ τ = am_gf k 7 2 σ τ (fun v => am_run d 36 17 ls (v :: st) σ τ) := rr_getf dX7_ofOneWithParents_14 (by decide +kernel)
theorem r36_17 (d : Nat) (ls st : List Value) (σ : am_St) (τ : Int64) (k : Nat) : am_run d 36 17 ls (.ref k :: st) σ τ = am_gf k 1 1 σ τ (fun v => am_run d 36 20 ls (v :: st) σ τ) := rr_getf dX7_ofOneWithParents_17 (by decide +kernel)
theorem r36_20 (d : Nat) (st : List Value) (σ : am_St) (τ : Int64) (x : Int32) (v0 v2 v3 v4 v5 : Value) : am_run d 36 20 [v0, .int x, v2, v3, v4, v5] st σ τ = am_run d 36 21 [v0, .int x, v2, v3, v4, v5] (.int x :: st) σ τ := rr_iload_n dX7_ofOneWithParents_20 rfl
theorem r36_21 (d : Nat) (ls st : List Value) (σ : am_St) (τ : Int64) (i : Int32) (k : Nat) : am_run d 36 21 ls (.int i :: .ref k :: st) σ τ = am_ai false k i (fun j => am_run d 36 22 ls (.int (σ k j) :: st) σ τ) := rr_iald dX7_ofOneWithParents_21
theorem r36_22 (d : Nat) (ls st : List Value) (σ : am_St) (τ : Int64) : am_run d 36 22 ls st σ τ = am_run d 36 23 ls (.int 4 :: st) σ τ := rr_iconst 4 dX7_ofOneWithParents_22 (by decide)
theorem r36_23 (d : Nat) (ls st : List Value) (σ : am_St) (τ : Int64) (x y : Int32) : am_run d 36 23 ls (.int y :: .int x :: st) σ τ = if x = y then am_run d 36 26 ls st σ τ else am_run d 36 46 ls st σ τ := (rr_icmp 46 dX7_ofOneWithParents_23 (by decide)).trans am_seln
theorem r36_26 (d : Nat) (st : List Value) (σ : am_St) (τ : Int64) (x : Nat) (v1 v2 v3 v4 v5 : Value) : am_run d 36 26 [.ref x, v1, v2, v3, v4, v5] st σ τ = am_run d 36 27 [.ref x, v1, v2, v3, v4, v5] (.ref x :: st) σ τ := rr_aload_n dX7_ofOneWithParents_26 rfl
theorem r36_27 (d : Nat) (st : List Value) (σ : am_St) (τ : Int64) (x : Int32) (v0 v2 v3 v4 v5 : Value) : am_run d 36 27 [v0, .int x, v2, v3, v4, v5] st σ τ = am_run d 36 28 [v0, .int x, v2, v3, v4, v5] (.int x :: st) σ τ := rr_iload_n dX7_ofOneWithParents_27 rfl
theorem r36_28 (d : Nat) (st : List Value) (σ : am_St) (τ : Int64) (x : Nat) (v0 v1 v3 v4 v5 : Value) : am_run d 36 28 [v0, v1, .ref x, v3, v4, v5] st σ τ = am_run d 36 29 [v0, v1, .ref x, v3, v4, v5] (.ref x :: st) σ τ := rr_aload_n dX7_ofOneWithParents_28 rfl
theorem r36_29 (d : Nat) (ls st : List Value) (σ : am_St) (τ : Int64) (k : Nat) (a0 : Int32) (a1 : Nat) (hk : am_kc k = 7) (hc : am_cats st ≤ 8) : am_run (d + 1) 36 29 ls (.ref a1 :: .int a0 :: .ref k :: st) σ τ = (am_call d 37 [.ref k, .int a0, .ref a1] σ τ).bind (fun r => am_run (d + 1) 36 32 ls (r.1.toList ++ st) r.2.1 r.2.2) := rr_invv [.int a0, .ref a1] dX7_ofOneWithParents_29 (by decide +kernel) (by decide) rfl (Nat.le_of_ble_eq_true rfl) hk hc
theorem r36_32 (d : Nat) (ls st : List Value) (σ : am_St) (τ : Int64) (x : Int32) : am_run d 36 32 ls (.int x :: st) σ τ = if x = 0 then am_run d 36 46 ls st σ τ else am_run d 36 35 ls st σ τ := (rr_if 46 dX7_ofOneWithParents_32 (by decide)).trans am_sel
theorem r36_35 (d : Nat) (st : List Value) (σ : am_St) (τ : Int64) (x : Nat) (v1 v2 v3 v4 v5 : Value) : am_run d 36 35 [.ref x, v1, v2, v3, v4, v5] st σ τ = am_run d 36 36 [.ref x, v1, v2, v3, v4, v5] (.ref x :: st) σ τ := rr_aload_n dX7_ofOneWithParents_35 rfl
theorem r36_36 (d : Nat) (st : List Value) (σ : am_St) (τ : Int64) (x : Nat) (v0 v1 v2 v4 v5 : Value) : am_run d 36 36 [v0, v1, v2, .ref x, v4, v5] st σ τ = am_run d 36 37 [v0, v1, v2, .ref x, v4, v5] (.ref x :: st) σ τ := rr_aload_n dX7_ofOneWithParents_36 rfl
theorem r36_37 (d : Nat) (ls st : List Value) (σ : am_St) (τ : Int64) (k : Nat) : am_run d 36 37 ls (.ref k :: st) σ τ = am_gf k 4 3 σ τ (fun v => am_run d 36 40 ls (v :: st) σ τ) := rr_getf dX7_ofOneWithParents_37 (by decide +kernel)
theorem r36_40 (d : Nat) (st : List Value) (σ : am_St) (τ : Int64) (x : Int32) (v0 v2 v3 v4 v5 : Value) : am_run d 36 40 [v0, .int x, v2, v3, v4, v5] st σ τ = am_run d 36 41 [v0, .int x, v2, v3, v4, v5] (.int x :: st) σ τ := rr_iload_n dX7_ofOneWithParents_40 rfl
theorem r36_41 (d : Nat) (st : List Value) (σ : am_St) (τ : Int64) (x : Nat) (v0 v1 v3 v4 v5 : Value) : am_run d 36 41 [v0, v1, .ref x, v3, v4, v5] st σ τ = am_run d 36 42 [v0, v1, .ref x, v3, v4, v5] (.ref x :: st) σ τ := rr_aload_n dX7_ofOneWithParents_41 rfl
theorem r36_42 (d : Nat) (ls st : List Value) (σ : am_St) (τ : Int64) (k : Nat) (a0 : Int32) (a1 : Int32) (a2 : Nat) (hk : am_kc k = 7) (hc : am_cats st ≤ 8) : am_run (d + 1) 36 42 ls (.ref a2 :: .int a1 :: .int a0 :: .ref k :: st) σ τ = (am_call d 39 [.ref k, .int a0, .int a1, .ref a2] σ τ).bind (fun r => am_run (d + 1) 36 45 ls (r.1.toList ++ st) r.2.1 r.2.2) := rr_invv [.int a0, .int a1, .ref a2] dX7_ofOneWithParents_42 (by decide +kernel) (by decide) rfl (Nat.le_of_ble_eq_true rfl) hk hc
theorem r36_45 (d : Nat) (ls : List Value) (σ : am_St) (τ : Int64) (x : Int32) : am_run d 36 45 ls [.int x] σ τ = some (some (.int x), σ, τ) := rr_iret dX7_ofOneWithParents_45 rfl
theorem r36_46 (d : Nat) (st : List Value) (σ : am_St) (τ : Int64) (x : Nat) (v1 v2 v3 v4 v5 : Value) : am_run d 36 46 [.ref x, v1, v2, v3, v4, v5] st σ τ = am_run d 36 47 [.ref x, v1, v2, v3, v4, v5] (.ref x :: st) σ τ := rr_aload_n dX7_ofOneWithParents_46 rfl
theorem r36_47 (d : Nat) (ls st : List Value) (σ : am_St) (τ : Int64) (k : Nat) : am_run d 36 47 ls (.ref k :: st) σ τ = am_gf k 7 2 σ τ (fun v => am_run d 36 50 ls (v :: st) σ τ) := rr_getf dX7_ofOneWithParents_47 (by decide +kernel)
theorem r36_50 (d : Nat) (ls st : List Value) (σ : am_St) (τ : Int64) (k : Nat) : am_run d 36 50 ls (.ref k :: st) σ τ = am_gf k 1 1 σ τ (fun v => am_run d 36 53 ls (v :: st) σ τ) := rr_getf dX7_ofOneWithParents_50 (by decide +kernel)
theorem r36_53 (d : Nat) (st : List Value) (σ : am_St) (τ : Int64) (x : Int32) (v0 v2 v3 v4 v5 : Value) : am_run d 36 53 [v0, .int x, v2, v3, v4, v5] st σ τ = am_run d 36 54 [v0, .int x, v2, v3, v4, v5] (.int x :: st) σ τ := rr_iload_n dX7_ofOneWithParents_53 rfl
theorem r36_54 (d : Nat) (ls st : List Value) (σ : am_St) (τ : Int64) (i : Int32) (k : Nat) : am_run d 36 54 ls (.int i :: .ref k :: st) σ τ = am_ai false k i (fun j => am_run d 36 55 ls (.int (σ k j) :: st) σ τ) := rr_iald dX7_ofOneWithParents_54
theorem r36_55 (d : Nat) (ls st : List Value) (σ : am_St) (τ : Int64) : am_run d 36 55 ls st σ τ = am_run d 36 56 ls (.int 4 :: st) σ τ := rr_iconst 4 dX7_ofOneWithParents_55 (by decide)
theorem r36_56 (d : Nat) (ls st : List Value) (σ : am_St) (τ : Int64) (x y : Int32) : am_run d 36 56 ls (.int y :: .int x :: st) σ τ = if x = y then am_run d 36 59 ls st σ τ else am_run d 36 68 ls st σ τ := (rr_icmp 68 dX7_ofOneWithParents_56 (by decide)).trans am_seln
theorem r36_59 (d : Nat) (st : List Value) (σ : am_St) (τ : Int64) (x : Nat) (v1 v2 v3 v4 v5 : Value) : am_run d 36 59 [.ref x, v1, v2, v3, v4, v5] st σ τ = am_run d 36 60 [.ref x, v1, v2, v3, v4, v5] (.ref x :: st) σ τ := rr_aload_n dX7_ofOneWithParents_59 rfl
theorem r36_60 (d : Nat) (ls st : List Value) (σ : am_St) (τ : Int64) (k : Nat) : am_run d 36 60 ls (.ref k :: st) σ τ = am_gf k 7 0 σ τ (fun v => am_run d 36 63 ls (v :: st) σ τ) := rr_getf dX7_ofOneWithParents_60 (by decide +kernel)
theorem r36_63 (d : Nat) (st : List Value) (σ : am_St) (τ : Int64) (x : Nat) (v0 v1 v3 v4 v5 : Value) : am_run d 36 63 [v0, v1, .ref x, v3, v4, v5] st σ τ = am_run d 36 64 [v0, v1, .ref x, v3, v4, v5] (.ref x :: st) σ τ := rr_aload_n dX7_ofOneWithParents_63 rfl
theorem r36_64 (d : Nat) (st : List Value) (σ : am_St) (τ : Int64) (x : Int32) (v0 v2 v3 v4 v5 : Value) : am_run d 36 64 [v0, .int x, v2, v3, v4, v5] st σ τ = am_run d 36 65 [v0, .int x, v2, v3, v4, v5] (.int x :: st) σ τ := rr_iload_n dX7_ofOneWithParents_64 rfl
theorem r36_65 (d : Nat) (ls st : List Value) (σ : am_St) (τ : Int64) (i : Int32) (k : Nat) : am_run d 36 65 ls (.int i :: .ref k :: st) σ τ = am_ai false k i (fun j => am_run d 36 66 ls (.int (σ k j) :: st) σ τ) := rr_iald dX7_ofOneWithParents_65
theorem r36_66 (d : Nat) (ls st : List Value) (σ : am_St) (τ : Int64) (i : Int32) (k : Nat) : am_run d 36 66 ls (.int i :: .ref k :: st) σ τ = am_ai false k i (fun j => am_run d 36 67 ls (.int (σ k j) :: st) σ τ) := rr_iald dX7_ofOneWithParents_66
theorem r36_67 (d : Nat) (ls : List Value) (σ : am_St) (τ : Int64) (x : Int32) : am_run d 36 67 ls [.int x] σ τ = some (some (.int x), σ, τ) := rr_iret dX7_ofOneWithParents_67 rfl
theorem r36_68 (d : Nat) (st : List Value) (σ : am_St) (τ : Int64) (x : Nat) (v1 v2 v3 v4 v5 : Value) : am_run d 36 68 [.ref x, v1, v2, v3, v4, v5] st σ τ = am_run d 36 69 [.ref x, v1, v2, v3, v4, v5] (.ref x :: st) σ τ := rr_aload_n dX7_ofOneWithParents_68 rfl
theorem r36_69 (d : Nat) (st : List Value) (σ : am_St) (τ : Int64) (x : Nat) (v0 v1 v2 v4 v5 : Value) : am_run d 36 69 [v0, v1, v2, .ref x, v4, v5] st σ τ = am_run d 36 70 [v0, v1, v2, .ref x, v4, v5] (.ref x :: st) σ τ := rr_aload_n dX7_ofOneWithParents_69 rfl
theorem r36_70 (d : Nat) (ls st : List Value) (σ : am_St) (τ : Int64) (k : Nat) : am_run d 36 70 ls (.ref k :: st) σ τ = am_gf k 4 0 σ τ (fun v => am_run d 36 73 ls (v :: st) σ τ) := rr_getf dX7_ofOneWithParents_70 (by decide +kernel)
theorem r36_73 (d : Nat) (st : List Value) (σ : am_St) (τ : Int64) (x : Int32) (v0 v2 v3 v4 v5 : Value) : am_run d 36 73 [v0, .int x, v2, v3, v4, v5] st σ τ = am_run d 36 74 [v0, .int x, v2, v3, v4, v5] (.int x :: st) σ τ := rr_iload_n dX7_ofOneWithParents_73 rfl
theorem r36_74 (d : Nat) (st : List Value) (σ : am_St) (τ : Int64) (x : Nat) (v0 v1 v3 v4 v5 : Value) : am_run d 36 74 [v0, v1, .ref x, v3, v4, v5] st σ τ = am_run d 36 75 [v0, v1, .ref x, v3, v4, v5] (.ref x :: st) σ τ := rr_aload_n dX7_ofOneWithParents_74 rfl
theorem r36_75 (d : Nat) (ls st : List Value) (σ : am_St) (τ : Int64) (k : Nat) (a0 : Int32) (a1 : Int32) (a2 : Nat) (hk : am_kc k = 7) (hc : am_cats st ≤ 8) : am_run (d + 1) 36 75 ls (.ref a2 :: .int a1 :: .int a0 :: .ref k :: st) σ τ = (am_call d 39 [.ref k, .int a0, .int a1, .ref a2] σ τ).bind (fun r => am_run (d + 1) 36 78 ls (r.1.toList ++ st) r.2.1 r.2.2) := rr_invv [.int a0, .int a1, .ref a2] dX7_ofOneWithParents_75 (by decide +kernel) (by decide) rfl (Nat.le_of_ble_eq_true rfl) hk hc
theorem r36_78 (d : Nat) (st : List Value) (σ : am_St) (τ : Int64) (x : Int32) (v0 v1 v2 v3 v4 v5 : Value) : am_run d 36 78 [v0, v1, v2, v3, v4, v5] (.int x :: st) σ τ = am_run d 36 80 [v0, v1, v2, am_nl v3, .int x, v5] st σ τ := rr_istore _ dX7_ofOneWithParents_78 (by decide) (by first | rfl | (by_cases h : v3.category = 2 <;> simp [am_set1, am_nl, h]))
theorem r36_80 (d : Nat) (st : List Value) (σ : am_St) (τ : Int64) (x : Nat) (v0 v1 v2 v4 v5 : Value) : am_run d 36 80 [v0, v1, v2, .ref x, v4, v5] st σ τ = am_run d 36 81 [v0, v1, v2, .ref x, v4, v5] (.ref x :: st) σ τ := rr_aload_n dX7_ofOneWithParents_80 rfl
theorem r36_81 (d : Nat) (ls st : List Value) (σ : am_St) (τ : Int64) (k : Nat) : am_run d 36 81 ls (.ref k :: st) σ τ = am_gf k 4 1 σ τ (fun v => am_run d 36 84 ls (v :: st) σ τ) := rr_getf dX7_ofOneWithParents_81 (by decide +kernel)
theorem r36_84 (d : Nat) (ls st : List Value) (σ : am_St) (τ : Int64) (x : Int32) : am_run d 36 84 ls (.int x :: st) σ τ = if x ≤ 0 then am_run d 36 107 ls st σ τ else am_run d 36 87 ls st σ τ := (rr_if 107 dX7_ofOneWithParents_84 (by decide)).trans am_sel
theorem r36_87 (d : Nat) (st : List Value) (σ : am_St) (τ : Int64) (x : Nat) (v1 v2 v3 v4 v5 : Value) : am_run d 36 87 [.ref x, v1, v2, v3, v4, v5] st σ τ = am_run d 36 88 [.ref x, v1, v2, v3, v4, v5] (.ref x :: st) σ τ := rr_aload_n dX7_ofOneWithParents_87 rfl
theorem r36_88 (d : Nat) (st : List Value) (σ : am_St) (τ : Int64) (x : Nat) (v0 v1 v3 v4 v5 : Value) : am_run d 36 88 [v0, v1, .ref x, v3, v4, v5] st σ τ = am_run d 36 89 [v0, v1, .ref x, v3, v4, v5] (.ref x :: st) σ τ := rr_aload_n dX7_ofOneWithParents_88 rfl
theorem r36_89 (d : Nat) (st : List Value) (σ : am_St) (τ : Int64) (x : Int32) (v0 v2 v3 v4 v5 : Value) : am_run d 36 89 [v0, .int x, v2, v3, v4, v5] st σ τ = am_run d 36 90 [v0, .int x, v2, v3, v4, v5] (.int x :: st) σ τ := rr_iload_n dX7_ofOneWithParents_89 rfl
theorem r36_90 (d : Nat) (ls st : List Value) (σ : am_St) (τ : Int64) (i : Int32) (k : Nat) : am_run d 36 90 ls (.int i :: .ref k :: st) σ τ = am_ai false k i (fun j => am_run d 36 91 ls (.int (σ k j) :: st) σ τ) := rr_iald dX7_ofOneWithParents_90
theorem r36_91 (d : Nat) (st : List Value) (σ : am_St) (τ : Int64) (x : Int32) (v0 v1 v2 v3 v5 : Value) : am_run d 36 91 [v0, v1, v2, v3, .int x, v5] st σ τ = am_run d 36 93 [v0, v1, v2, v3, .int x, v5] (.int x :: st) σ τ := rr_iload dX7_ofOneWithParents_91 rfl
theorem r36_93 (d : Nat) (ls st : List Value) (σ : am_St) (τ : Int64) (k : Nat) (a0 : Int32) (a1 : Int32) (hk : am_kc k = 7) (hc : am_cats st ≤ 8) : am_run (d + 1) 36 93 ls (.int a1 :: .int a0 :: .ref k :: st) σ τ = (am_call d 38 [.ref k, .int a0, .int a1] σ τ).bind (fun r => am_run (d + 1) 36 96 ls (r.1.toList ++ st) r.2.1 r.2.2) := rr_invv [.int a0, .int a1] dX7_ofOneWithParents_93 (by decide +kernel) (by decide) rfl (Nat.le_of_ble_eq_true rfl) hk hc
theorem r36_96 (d : Nat) (st : List Value) (σ : am_St) (τ : Int64) (x : Nat) (v0 v1 v2 v4 v5 : Value) : am_run d 36 96 [v0, v1, v2, .ref x, v4, v5] st σ τ = am_run d 36 97 [v0, v1, v2, .ref x, v4, v5] (.ref x :: st) σ τ := rr_aload_n dX7_ofOneWithParents_96 rfl
theorem r36_97 (d : Nat) (ls st : List Value) (σ : am_St) (τ : Int64) (k : Nat) : am_run d 36 97 ls (.ref k :: st) σ τ = am_gf k 4 1 σ τ (fun v => am_run d 36 100 ls (v :: st) σ τ) := rr_getf dX7_ofOneWithParents_97 (by decide +kernel)
theorem r36_100 (d : Nat) (ls st : List Value) (σ : am_St) (τ : Int64) (x y : Int32) : am_run d 36 100 ls (.int y :: .int x :: st) σ τ = if x < y then am_run d 36 107 ls st σ τ else am_run d 36 103 ls st σ τ := (rr_icmp 107 dX7_ofOneWithParents_100 (by decide)).trans am_sel
theorem r36_103 (d : Nat) (ls st : List Value) (σ : am_St) (τ : Int64) : am_run d 36 103 ls st σ τ = am_run d 36 104 ls (.int 1 :: st) σ τ := rr_iconst 1 dX7_ofOneWithParents_103 (by decide)
theorem r36_104 (d : Nat) (ls st : List Value) (σ : am_St) (τ : Int64) : am_run d 36 104 ls st σ τ = am_run d 36 108 ls st σ τ := rr_goto 108 dX7_ofOneWithParents_104 (by decide)
theorem r36_107 (d : Nat) (ls st : List Value) (σ : am_St) (τ : Int64) : am_run d 36 107 ls st σ τ = am_run d 36 108 ls (.int 0 :: st) σ τ := rr_iconst 0 dX7_ofOneWithParents_107 (by decide)
theorem r36_108 (d : Nat) (st : List Value) (σ : am_St) (τ : Int64) (x : Int32) (v0 v1 v2 v3 v4 v5 : Value) : am_run d 36 108 [v0, v1, v2, v3, v4, v5] (.int x :: st) σ τ = am_run d 36 110 [v0, v1, v2, v3, am_nl v4, .int x] st σ τ := rr_istore _ dX7_ofOneWithParents_108 (by decide) (by first | rfl | (by_cases h : v4.category = 2 <;> simp [am_set1, am_nl, h]))
theorem r36_110 (d : Nat) (st : List Value) (σ : am_St) (τ : Int64) (x : Int32) (v0 v1 v2 v3 v4 : Value) : am_run d 36 110 [v0, v1, v2, v3, v4, .int x] st σ τ = am_run d 36 112 [v0, v1, v2, v3, v4, .int x] (.int x :: st) σ τ := rr_iload dX7_ofOneWithParents_110 rfl
theorem r36_112 (d : Nat) (ls st : List Value) (σ : am_St) (τ : Int64) (x : Int32) : am_run d 36 112 ls (.int x :: st) σ τ = if x = 0 then am_run d 36 128 ls st σ τ else am_run d 36 115 ls st σ τ := (rr_if 128 dX7_ofOneWithParents_112 (by decide)).trans am_sel
theorem r36_115 (d : Nat) (st : List Value) (σ : am_St) (τ : Int64) (x : Nat) (v1 v2 v3 v4 v5 : Value) : am_run d 36 115 [.ref x, v1, v2, v3, v4, v5] st σ τ = am_run d 36 116 [.ref x, v1, v2, v3, v4, v5] (.ref x :: st) σ τ := rr_aload_n dX7_ofOneWithParents_115 rfl
theorem r36_116 (d : Nat) (st : List Value) (σ : am_St) (τ : Int64) (x : Nat) (v0 v1 v2 v4 v5 : Value) : am_run d 36 116 [v0, v1, v2, .ref x, v4, v5] st σ τ = am_run d 36 117 [v0, v1, v2, .ref x, v4, v5] (.ref x :: st) σ τ := rr_aload_n dX7_ofOneWithParents_116 rfl
theorem r36_117 (d : Nat) (ls st : List Value) (σ : am_St) (τ : Int64) (k : Nat) : am_run d 36 117 ls (.ref k :: st) σ τ = am_gf k 4 2 σ τ (fun v => am_run d 36 120 ls (v :: st) σ τ) := rr_getf dX7_ofOneWithParents_117 (by decide +kernel)
theorem r36_120 (d : Nat) (st : List Value) (σ : am_St) (τ : Int64) (x : Int32) (v0 v2 v3 v4 v5 : Value) : am_run d 36 120 [v0, .int x, v2, v3, v4, v5] st σ τ = am_run d 36 121 [v0, .int x, v2, v3, v4, v5] (.int x :: st) σ τ := rr_iload_n dX7_ofOneWithParents_120 rfl
theorem r36_121 (d : Nat) (st : List Value) (σ : am_St) (τ : Int64) (x : Nat) (v0 v1 v3 v4 v5 : Value) : am_run d 36 121 [v0, v1, .ref x, v3, v4, v5] st σ τ = am_run d 36 122 [v0, v1, .ref x, v3, v4, v5] (.ref x :: st) σ τ := rr_aload_n dX7_ofOneWithParents_121 rfl
theorem r36_122 (d : Nat) (ls st : List Value) (σ : am_St) (τ : Int64) (k : Nat) (a0 : Int32) (a1 : Int32) (a2 : Nat) (hk : am_kc k = 7) (hc : am_cats st ≤ 8) : am_run (d + 1) 36 122 ls (.ref a2 :: .int a1 :: .int a0 :: .ref k :: st) σ τ = (am_call d 39 [.ref k, .int a0, .int a1, .ref a2] σ τ).bind (fun r => am_run (d + 1) 36 125 ls (r.1.toList ++ st) r.2.1 r.2.2) := rr_invv [.int a0, .int a1, .ref a2] dX7_ofOneWithParents_122 (by decide +kernel) (by decide) rfl (Nat.le_of_ble_eq_true rfl) hk hc
theorem r36_125 (d : Nat) (ls st : List Value) (σ : am_St) (τ : Int64) : am_run d 36 125 ls st σ τ = am_run d 36 130 ls st σ τ := rr_goto 130 dX7_ofOneWithParents_125 (by decide)
theorem r36_128 (d : Nat) (st : List Value) (σ : am_St) (τ : Int64) (x : Int32) (v0 v1 v2 v3 v5 : Value) : am_run d 36 128 [v0, v1, v2, v3, .int x, v5] st σ τ = am_run d 36 130 [v0, v1, v2, v3, .int x, v5] (.int x :: st) σ τ := rr_iload dX7_ofOneWithParents_128 rfl
theorem r36_130 (d : Nat) (ls : List Value) (σ : am_St) (τ : Int64) (x : Int32) : am_run d 36 130 ls [.int x] σ τ = some (some (.int x), σ, τ) := rr_iret dX7_ofOneWithParents_130 rfl
theorem dX7_isTaken_0 : decode (am_code 37) 0 = .ok (.iconst 0, 1) := by decide +kernel
theorem dX7_isTaken_1 : decode (am_code 37) 1 = .ok (.istore_n 3, 1) := by decide +kernel
theorem dX7_isTaken_2 : decode (am_code 37) 2 = .ok (.iload_n 3, 1) := by decide +kernel
theorem dX7_isTaken_3 : decode (am_code 37) 3 = .ok (.iload_n 1, 1) := by decide +kernel
theorem dX7_isTaken_4 : decode (am_code 37) 4 = .ok (.if_icmp .ge 37, 3) := by decide +kernel
theorem dX7_isTaken_7 : decode (am_code 37) 7 = .ok (.aload_n 2, 1) := by decide +kernel
theorem dX7_isTaken_8 : decode (am_code 37) 8 = .ok (.iload_n 3, 1) := by decide +kernel
theorem dX7_isTaken_9 : decode (am_code 37) 9 = .ok (.iaload, 1) := by decide +kernel
theorem dX7_isTaken_10 : decode (am_code 37) 10 = .ok (.aload_n 2, 1) := by decide +kernel
theorem dX7_isTaken_11 : decode (am_code 37) 11 = .ok (.iload_n 1, 1) := by decide +kernel
theorem dX7_isTaken_12 : decode (am_code 37) 12 = .ok (.iaload, 1) := by decide +kernel
theorem dX7_isTaken_13 : decode (am_code 37) 13 = .ok (.if_icmp .ne 22, 3) := by decide +kernel
theorem dX7_isTaken_16 : decode (am_code 37) 16 = .ok (.aload_n 0, 1) := by decide +kernel
theorem dX7_isTaken_17 : decode (am_code 37) 17 = .ok (.getfield 9, 3) := by decide +kernel
theorem dX7_isTaken_20 : decode (am_code 37) 20 = .ok (.iload_n 3, 1) := by decide +kernel
theorem dX7_isTaken_21 : decode (am_code 37) 21 = .ok (.iaload, 1) := by decide +kernel
theorem dX7_isTaken_22 : decode (am_code 37) 22 = .ok (.aload_n 0, 1) := by decide +kernel
theorem dX7_isTaken_23 : decode (am_code 37) 23 = .ok (.getfield 9, 3) := by decide +kernel
theorem dX7_isTaken_26 : decode (am_code 37) 26 = .ok (.aload_n 2, 1) := by decide +kernel
theorem dX7_isTaken_27 : decode (am_code 37) 27 = .ok (.iload_n 1, 1) := by decide +kernel
theorem dX7_isTaken_28 : decode (am_code 37) 28 = .ok (.iaload, 1) := by decide +kernel
theorem dX7_isTaken_29 : decode (am_code 37) 29 = .ok (.iaload, 1) := by decide +kernel
theorem dX7_isTaken_30 : decode (am_code 37) 30 = .ok (.if_icmp .ne 5, 3) := by decide +kernel
theorem dX7_isTaken_33 : decode (am_code 37) 33 = .ok (.iconst 1, 1) := by decide +kernel
theorem dX7_isTaken_34 : decode (am_code 37) 34 = .ok (.ireturn, 1) := by decide +kernel
theorem dX7_isTaken_35 : decode (am_code 37) 35 = .ok (.iinc 3 1, 3) := by decide +kernel
theorem dX7_isTaken_38 : decode (am_code 37) 38 = .ok (.goto (-36), 3) := by decide +kernel
theorem dX7_isTaken_41 : decode (am_code 37) 41 = .ok (.iconst 0, 1) := by decide +kernel
theorem dX7_isTaken_42 : decode (am_code 37) 42 = .ok (.ireturn, 1) := by decide +kernel
theorem r37_0 (d : Nat) (ls st : List Value) (σ : am_St) (τ : Int64) : am_run d 37 0 ls st σ τ = am_run d 37 1 ls (.int 0 :: st) σ τ := rr_iconst 0 dX7_isTaken_0 (by decide)
theorem r37_1 (d : Nat) (st : List Value) (σ : am_St) (τ : Int64) (x : Int32) (v0 v1 v2 v3 : Value) : am_run d 37 1 [v0, v1, v2, v3] (.int x :: st) σ τ = am_run d 37 2 [v0, v1, am_nl v2, .int x] st σ τ := rr_istore_n _ dX7_isTaken_1 (by decide) (by first | rfl | (by_cases h : v2.category = 2 <;> simp [am_set1, am_nl, h]))
theorem r37_2 (d : Nat) (st : List Value) (σ : am_St) (τ : Int64) (x : Int32) (v0 v1 v2 : Value) : am_run d 37 2 [v0, v1, v2, .int x] st σ τ = am_run d 37 3 [v0, v1, v2, .int x] (.int x :: st) σ τ := rr_iload_n dX7_isTaken_2 rfl
theorem r37_3 (d : Nat) (st : List Value) (σ : am_St) (τ : Int64) (x : Int32) (v0 v2 v3 : Value) : am_run d 37 3 [v0, .int x, v2, v3] st σ τ = am_run d 37 4 [v0, .int x, v2, v3] (.int x :: st) σ τ := rr_iload_n dX7_isTaken_3 rfl
theorem r37_4 (d : Nat) (ls st : List Value) (σ : am_St) (τ : Int64) (x y : Int32) : am_run d 37 4 ls (.int y :: .int x :: st) σ τ = if y ≤ x then am_run d 37 41 ls st σ τ else am_run d 37 7 ls st σ τ := (rr_icmp 41 dX7_isTaken_4 (by decide)).trans am_sel
theorem r37_7 (d : Nat) (st : List Value) (σ : am_St) (τ : Int64) (x : Nat) (v0 v1 v3 : Value) : am_run d 37 7 [v0, v1, .ref x, v3] st σ τ = am_run d 37 8 [v0, v1, .ref x, v3] (.ref x :: st) σ τ := rr_aload_n dX7_isTaken_7 rfl
theorem r37_8 (d : Nat) (st : List Value) (σ : am_St) (τ : Int64) (x : Int32) (v0 v1 v2 : Value) : am_run d 37 8 [v0, v1, v2, .int x] st σ τ = am_run d 37 9 [v0, v1, v2, .int x] (.int x :: st) σ τ := rr_iload_n dX7_isTaken_8 rfl
theorem r37_9 (d : Nat) (ls st : List Value) (σ : am_St) (τ : Int64) (i : Int32) (k : Nat) : am_run d 37 9 ls (.int i :: .ref k :: st) σ τ = am_ai false k i (fun j => am_run d 37 10 ls (.int (σ k j) :: st) σ τ) := rr_iald dX7_isTaken_9
theorem r37_10 (d : Nat) (st : List Value) (σ : am_St) (τ : Int64) (x : Nat) (v0 v1 v3 : Value) : am_run d 37 10 [v0, v1, .ref x, v3] st σ τ = am_run d 37 11 [v0, v1, .ref x, v3] (.ref x :: st) σ τ := rr_aload_n dX7_isTaken_10 rfl
theorem r37_11 (d : Nat) (st : List Value) (σ : am_St) (τ : Int64) (x : Int32) (v0 v2 v3 : Value) : am_run d 37 11 [v0, .int x, v2, v3] st σ τ = am_run d 37 12 [v0, .int x, v2, v3] (.int x :: st) σ τ := rr_iload_n dX7_isTaken_11 rfl
theorem r37_12 (d : Nat) (ls st : List Value) (σ : am_St) (τ : Int64) (i : Int32) (k : Nat) : am_run d 37 12 ls (.int i :: .ref k :: st) σ τ = am_ai false k i (fun j => am_run d 37 13 ls (.int (σ k j) :: st) σ τ) := rr_iald dX7_isTaken_12
theorem r37_13 (d : Nat) (ls st : List Value) (σ : am_St) (τ : Int64) (x y : Int32) : am_run d 37 13 ls (.int y :: .int x :: st) σ τ = if x = y then am_run d 37 16 ls st σ τ else am_run d 37 35 ls st σ τ := (rr_icmp 35 dX7_isTaken_13 (by decide)).trans am_seln
theorem r37_16 (d : Nat) (st : List Value) (σ : am_St) (τ : Int64) (x : Nat) (v1 v2 v3 : Value) : am_run d 37 16 [.ref x, v1, v2, v3] st σ τ = am_run d 37 17 [.ref x, v1, v2, v3] (.ref x :: st) σ τ := rr_aload_n dX7_isTaken_16 rfl
theorem r37_17 (d : Nat) (ls st : List Value) (σ : am_St) (τ : Int64) (k : Nat) : am_run d 37 17 ls (.ref k :: st) σ τ = am_gf k 7 0 σ τ (fun v => am_run d 37 20 ls (v :: st) σ τ) := rr_getf dX7_isTaken_17 (by decide +kernel)
theorem r37_20 (d : Nat) (st : List Value) (σ : am_St) (τ : Int64) (x : Int32) (v0 v1 v2 : Value) : am_run d 37 20 [v0, v1, v2, .int x] st σ τ = am_run d 37 21 [v0, v1, v2, .int x] (.int x :: st) σ τ := rr_iload_n dX7_isTaken_20 rfl
theorem r37_21 (d : Nat) (ls st : List Value) (σ : am_St) (τ : Int64) (i : Int32) (k : Nat) : am_run d 37 21 ls (.int i :: .ref k :: st) σ τ = am_ai false k i (fun j => am_run d 37 22 ls (.int (σ k j) :: st) σ τ) := rr_iald dX7_isTaken_21
theorem r37_22 (d : Nat) (st : List Value) (σ : am_St) (τ : Int64) (x : Nat) (v1 v2 v3 : Value) : am_run d 37 22 [.ref x, v1, v2, v3] st σ τ = am_run d 37 23 [.ref x, v1, v2, v3] (.ref x :: st) σ τ := rr_aload_n dX7_isTaken_22 rfl
theorem r37_23 (d : Nat) (ls st : List Value) (σ : am_St) (τ : Int64) (k : Nat) : am_run d 37 23 ls (.ref k :: st) σ τ = am_gf k 7 0 σ τ (fun v => am_run d 37 26 ls (v :: st) σ τ) := rr_getf dX7_isTaken_23 (by decide +kernel)
theorem r37_26 (d : Nat) (st : List Value) (σ : am_St) (τ : Int64) (x : Nat) (v0 v1 v3 : Value) : am_run d 37 26 [v0, v1, .ref x, v3] st σ τ = am_run d 37 27 [v0, v1, .ref x, v3] (.ref x :: st) σ τ := rr_aload_n dX7_isTaken_26 rfl
theorem r37_27 (d : Nat) (st : List Value) (σ : am_St) (τ : Int64) (x : Int32) (v0 v2 v3 : Value) : am_run d 37 27 [v0, .int x, v2, v3] st σ τ = am_run d 37 28 [v0, .int x, v2, v3] (.int x :: st) σ τ := rr_iload_n dX7_isTaken_27 rfl
theorem r37_28 (d : Nat) (ls st : List Value) (σ : am_St) (τ : Int64) (i : Int32) (k : Nat) : am_run d 37 28 ls (.int i :: .ref k :: st) σ τ = am_ai false k i (fun j => am_run d 37 29 ls (.int (σ k j) :: st) σ τ) := rr_iald dX7_isTaken_28
theorem r37_29 (d : Nat) (ls st : List Value) (σ : am_St) (τ : Int64) (i : Int32) (k : Nat) : am_run d 37 29 ls (.int i :: .ref k :: st) σ τ = am_ai false k i (fun j => am_run d 37 30 ls (.int (σ k j) :: st) σ τ) := rr_iald dX7_isTaken_29
theorem r37_30 (d : Nat) (ls st : List Value) (σ : am_St) (τ : Int64) (x y : Int32) : am_run d 37 30 ls (.int y :: .int x :: st) σ τ = if x = y then am_run d 37 33 ls st σ τ else am_run d 37 35 ls st σ τ := (rr_icmp 35 dX7_isTaken_30 (by decide)).trans am_seln
theorem r37_33 (d : Nat) (ls st : List Value) (σ : am_St) (τ : Int64) : am_run d 37 33 ls st σ τ = am_run d 37 34 ls (.int 1 :: st) σ τ := rr_iconst 1 dX7_isTaken_33 (by decide)
theorem r37_34 (d : Nat) (ls : List Value) (σ : am_St) (τ : Int64) (x : Int32) (hx : x = 0 ∨ x = 1) : am_run d 37 34 ls [.int x] σ τ = some (some (.int x), σ, τ) := rr_zret dX7_isTaken_34 rfl hx
theorem r37_35 (d : Nat) (st : List Value) (σ : am_St) (τ : Int64) (x : Int32) (v0 v1 v2 : Value) : am_run d 37 35 [v0, v1, v2, .int x] st σ τ = am_run d 37 38 [v0, v1, am_nl v2, .int (x + 1)] st σ τ := rr_iinc 1 _ dX7_isTaken_35 rfl (by decide) (by decide) (by first | rfl | (by_cases h : v2.category = 2 <;> simp [am_set1, am_nl, h]))
theorem r37_38 (d : Nat) (ls st : List Value) (σ : am_St) (τ : Int64) : am_run d 37 38 ls st σ τ = am_run d 37 2 ls st σ τ := rr_goto 2 dX7_isTaken_38 (by decide)
theorem r37_41 (d : Nat) (ls st : List Value) (σ : am_St) (τ : Int64) : am_run d 37 41 ls st σ τ = am_run d 37 42 ls (.int 0 :: st) σ τ := rr_iconst 0 dX7_isTaken_41 (by decide)
theorem r37_42 (d : Nat) (ls : List Value) (σ : am_St) (τ : Int64) (x : Int32) (hx : x = 0 ∨ x = 1) : am_run d 37 42 ls [.int x] σ τ = some (some (.int x), σ, τ) := rr_zret dX7_isTaken_42 rfl hx
theorem dX7_rowWith_0 : decode (am_code 38) 0 = .ok (.aload_n 0, 1) := by decide +kernel
theorem dX7_rowWith_1 : decode (am_code 38) 1 = .ok (.getfield 9, 3) := by decide +kernel
theorem dX7_rowWith_4 : decode (am_code 38) 4 = .ok (.iload_n 1, 1) := by decide +kernel
theorem dX7_rowWith_5 : decode (am_code 38) 5 = .ok (.iaload, 1) := by decide +kernel
theorem dX7_rowWith_6 : decode (am_code 38) 6 = .ok (.iload_n 2, 1) := by decide +kernel
theorem dX7_rowWith_7 : decode (am_code 38) 7 = .ok (.if_icmp .ne 14, 3) := by decide +kernel
theorem dX7_rowWith_10 : decode (am_code 38) 10 = .ok (.aload_n 0, 1) := by decide +kernel
theorem dX7_rowWith_11 : decode (am_code 38) 11 = .ok (.getfield 15, 3) := by decide +kernel
theorem dX7_rowWith_14 : decode (am_code 38) 14 = .ok (.iload_n 1, 1) := by decide +kernel
theorem dX7_rowWith_15 : decode (am_code 38) 15 = .ok (.iaload, 1) := by decide +kernel
theorem dX7_rowWith_16 : decode (am_code 38) 16 = .ok (.iconst 1, 1) := by decide +kernel
theorem dX7_rowWith_17 : decode (am_code 38) 17 = .ok (.iadd, 1) := by decide +kernel
theorem dX7_rowWith_18 : decode (am_code 38) 18 = .ok (.goto 4, 3) := by decide +kernel
theorem dX7_rowWith_21 : decode (am_code 38) 21 = .ok (.iconst 1, 1) := by decide +kernel
theorem dX7_rowWith_22 : decode (am_code 38) 22 = .ok (.ireturn, 1) := by decide +kernel
theorem r38_0 (d : Nat) (st : List Value) (σ : am_St) (τ : Int64) (x : Nat) (v1 v2 : Value) : am_run d 38 0 [.ref x, v1, v2] st σ τ = am_run d 38 1 [.ref x, v1, v2] (.ref x :: st) σ τ := rr_aload_n dX7_rowWith_0 rfl
theorem r38_1 (d : Nat) (ls st : List Value) (σ : am_St) (τ : Int64) (k : Nat) : am_run d 38 1 ls (.ref k :: st) σ τ = am_gf k 7 0 σ τ (fun v => am_run d 38 4 ls (v :: st) σ τ) := rr_getf dX7_rowWith_1 (by decide +kernel)
theorem r38_4 (d : Nat) (st : List Value) (σ : am_St) (τ : Int64) (x : Int32) (v0 v2 : Value) : am_run d 38 4 [v0, .int x, v2] st σ τ = am_run d 38 5 [v0, .int x, v2] (.int x :: st) σ τ := rr_iload_n dX7_rowWith_4 rfl
theorem r38_5 (d : Nat) (ls st : List Value) (σ : am_St) (τ : Int64) (i : Int32) (k : Nat) : am_run d 38 5 ls (.int i :: .ref k :: st) σ τ = am_ai false k i (fun j => am_run d 38 6 ls (.int (σ k j) :: st) σ τ) := rr_iald dX7_rowWith_5
theorem r38_6 (d : Nat) (st : List Value) (σ : am_St) (τ : Int64) (x : Int32) (v0 v1 : Value) : am_run d 38 6 [v0, v1, .int x] st σ τ = am_run d 38 7 [v0, v1, .int x] (.int x :: st) σ τ := rr_iload_n dX7_rowWith_6 rfl
theorem r38_7 (d : Nat) (ls st : List Value) (σ : am_St) (τ : Int64) (x y : Int32) : am_run d 38 7 ls (.int y :: .int x :: st) σ τ = if x = y then am_run d 38 10 ls st σ τ else am_run d 38 21 ls st σ τ := (rr_icmp 21 dX7_rowWith_7 (by decide)).trans am_seln
theorem r38_10 (d : Nat) (st : List Value) (σ : am_St) (τ : Int64) (x : Nat) (v1 v2 : Value) : am_run d 38 10 [.ref x, v1, v2] st σ τ = am_run d 38 11 [.ref x, v1, v2] (.ref x :: st) σ τ := rr_aload_n dX7_rowWith_10 rfl
theorem r38_11 (d : Nat) (ls st : List Value) (σ : am_St) (τ : Int64) (k : Nat) : am_run d 38 11 ls (.ref k :: st) σ τ = am_gf k 7 1 σ τ (fun v => am_run d 38 14 ls (v :: st) σ τ) := rr_getf dX7_rowWith_11 (by decide +kernel)
theorem r38_14 (d : Nat) (st : List Value) (σ : am_St) (τ : Int64) (x : Int32) (v0 v2 : Value) : am_run d 38 14 [v0, .int x, v2] st σ τ = am_run d 38 15 [v0, .int x, v2] (.int x :: st) σ τ := rr_iload_n dX7_rowWith_14 rfl
theorem r38_15 (d : Nat) (ls st : List Value) (σ : am_St) (τ : Int64) (i : Int32) (k : Nat) : am_run d 38 15 ls (.int i :: .ref k :: st) σ τ = am_ai false k i (fun j => am_run d 38 16 ls (.int (σ k j) :: st) σ τ) := rr_iald dX7_rowWith_15
theorem r38_16 (d : Nat) (ls st : List Value) (σ : am_St) (τ : Int64) : am_run d 38 16 ls st σ τ = am_run d 38 17 ls (.int 1 :: st) σ τ := rr_iconst 1 dX7_rowWith_16 (by decide)
theorem r38_17 (d : Nat) (ls st : List Value) (σ : am_St) (τ : Int64) (x y : Int32) : am_run d 38 17 ls (.int y :: .int x :: st) σ τ = am_run d 38 18 ls (.int (x + y) :: st) σ τ := rr_iadd dX7_rowWith_17
theorem r38_18 (d : Nat) (ls st : List Value) (σ : am_St) (τ : Int64) : am_run d 38 18 ls st σ τ = am_run d 38 22 ls st σ τ := rr_goto 22 dX7_rowWith_18 (by decide)
theorem r38_21 (d : Nat) (ls st : List Value) (σ : am_St) (τ : Int64) : am_run d 38 21 ls st σ τ = am_run d 38 22 ls (.int 1 :: st) σ τ := rr_iconst 1 dX7_rowWith_21 (by decide)
theorem r38_22 (d : Nat) (ls : List Value) (σ : am_St) (τ : Int64) (x : Int32) : am_run d 38 22 ls [.int x] σ τ = some (some (.int x), σ, τ) := rr_iret dX7_rowWith_22 rfl
theorem dX7_byRule_0 : decode (am_code 39) 0 = .ok (.aload_n 3, 1) := by decide +kernel
theorem dX7_byRule_1 : decode (am_code 39) 1 = .ok (.iload_n 2, 1) := by decide +kernel
theorem dX7_byRule_2 : decode (am_code 39) 2 = .ok (.iaload, 1) := by decide +kernel
theorem dX7_byRule_3 : decode (am_code 39) 3 = .ok (.istore 4, 2) := by decide +kernel
theorem dX7_byRule_5 : decode (am_code 39) 5 = .ok (.aload_n 0, 1) := by decide +kernel
theorem dX7_byRule_6 : decode (am_code 39) 6 = .ok (.getfield 18, 3) := by decide +kernel
theorem dX7_byRule_9 : decode (am_code 39) 9 = .ok (.getfield 28, 3) := by decide +kernel
theorem dX7_byRule_12 : decode (am_code 39) 12 = .ok (.iload_n 2, 1) := by decide +kernel
theorem dX7_byRule_13 : decode (am_code 39) 13 = .ok (.iaload, 1) := by decide +kernel
theorem dX7_byRule_14 : decode (am_code 39) 14 = .ok (.istore 5, 2) := by decide +kernel
theorem dX7_byRule_16 : decode (am_code 39) 16 = .ok (.iload_n 1, 1) := by decide +kernel
theorem dX7_byRule_17 : decode (am_code 39) 17 = .ok (.tableswitch 49 1 3 #[27, 35, 42], 27) := by decide +kernel
theorem dX7_byRule_44 : decode (am_code 39) 44 = .ok (.aload_n 0, 1) := by decide +kernel
theorem dX7_byRule_45 : decode (am_code 39) 45 = .ok (.getfield 9, 3) := by decide +kernel
theorem dX7_byRule_48 : decode (am_code 39) 48 = .ok (.iload 5, 2) := by decide +kernel
theorem dX7_byRule_50 : decode (am_code 39) 50 = .ok (.iaload, 1) := by decide +kernel
theorem dX7_byRule_51 : decode (am_code 39) 51 = .ok (.ireturn, 1) := by decide +kernel
theorem dX7_byRule_52 : decode (am_code 39) 52 = .ok (.aload_n 0, 1) := by decide +kernel
theorem dX7_byRule_53 : decode (am_code 39) 53 = .ok (.iload 5, 2) := by decide +kernel
theorem dX7_byRule_55 : decode (am_code 39) 55 = .ok (.invokevirtual 64, 3) := by decide +kernel
theorem dX7_byRule_58 : decode (am_code 39) 58 = .ok (.ireturn, 1) := by decide +kernel
theorem dX7_byRule_59 : decode (am_code 39) 59 = .ok (.aload_n 0, 1) := by decide +kernel
theorem dX7_byRule_60 : decode (am_code 39) 60 = .ok (.iload 4, 2) := by decide +kernel
theorem dX7_byRule_62 : decode (am_code 39) 62 = .ok (.invokevirtual 64, 3) := by decide +kernel
theorem dX7_byRule_65 : decode (am_code 39) 65 = .ok (.ireturn, 1) := by decide +kernel
theorem dX7_byRule_66 : decode (am_code 39) 66 = .ok (.aload_n 0, 1) := by decide +kernel
theorem dX7_byRule_67 : decode (am_code 39) 67 = .ok (.getfield 9, 3) := by decide +kernel
theorem dX7_byRule_70 : decode (am_code 39) 70 = .ok (.iload 4, 2) := by decide +kernel
theorem dX7_byRule_72 : decode (am_code 39) 72 = .ok (.iaload, 1) := by decide +kernel
theorem dX7_byRule_73 : decode (am_code 39) 73 = .ok (.ireturn, 1) := by decide +kernel
theorem r39_0 (d : Nat) (st : List Value) (σ : am_St) (τ : Int64) (x : Nat) (v0 v1 v2 v4 v5 : Value) : am_run d 39 0 [v0, v1, v2, .ref x, v4, v5] st σ τ = am_run d 39 1 [v0, v1, v2, .ref x, v4, v5] (.ref x :: st) σ τ := rr_aload_n dX7_byRule_0 rfl
theorem r39_1 (d : Nat) (st : List Value) (σ : am_St) (τ : Int64) (x : Int32) (v0 v1 v3 v4 v5 : Value) : am_run d 39 1 [v0, v1, .int x, v3, v4, v5] st σ τ = am_run d 39 2 [v0, v1, .int x, v3, v4, v5] (.int x :: st) σ τ := rr_iload_n dX7_byRule_1 rfl
theorem r39_2 (d : Nat) (ls st : List Value) (σ : am_St) (τ : Int64) (i : Int32) (k : Nat) : am_run d 39 2 ls (.int i :: .ref k :: st) σ τ = am_ai false k i (fun j => am_run d 39 3 ls (.int (σ k j) :: st) σ τ) := rr_iald dX7_byRule_2
theorem r39_3 (d : Nat) (st : List Value) (σ : am_St) (τ : Int64) (x : Int32) (v0 v1 v2 v3 v4 v5 : Value) : am_run d 39 3 [v0, v1, v2, v3, v4, v5] (.int x :: st) σ τ = am_run d 39 5 [v0, v1, v2, am_nl v3, .int x, v5] st σ τ := rr_istore _ dX7_byRule_3 (by decide) (by first | rfl | (by_cases h : v3.category = 2 <;> simp [am_set1, am_nl, h]))
theorem r39_5 (d : Nat) (st : List Value) (σ : am_St) (τ : Int64) (x : Nat) (v1 v2 v3 v4 v5 : Value) : am_run d 39 5 [.ref x, v1, v2, v3, v4, v5] st σ τ = am_run d 39 6 [.ref x, v1, v2, v3, v4, v5] (.ref x :: st) σ τ := rr_aload_n dX7_byRule_5 rfl
theorem r39_6 (d : Nat) (ls st : List Value) (σ : am_St) (τ : Int64) (k : Nat) : am_run d 39 6 ls (.ref k :: st) σ τ = am_gf k 7 2 σ τ (fun v => am_run d 39 9 ls (v :: st) σ τ) := rr_getf dX7_byRule_6 (by decide +kernel)
theorem r39_9 (d : Nat) (ls st : List Value) (σ : am_St) (τ : Int64) (k : Nat) : am_run d 39 9 ls (.ref k :: st) σ τ = am_gf k 1 4 σ τ (fun v => am_run d 39 12 ls (v :: st) σ τ) := rr_getf dX7_byRule_9 (by decide +kernel)
theorem r39_12 (d : Nat) (st : List Value) (σ : am_St) (τ : Int64) (x : Int32) (v0 v1 v3 v4 v5 : Value) : am_run d 39 12 [v0, v1, .int x, v3, v4, v5] st σ τ = am_run d 39 13 [v0, v1, .int x, v3, v4, v5] (.int x :: st) σ τ := rr_iload_n dX7_byRule_12 rfl
theorem r39_13 (d : Nat) (ls st : List Value) (σ : am_St) (τ : Int64) (i : Int32) (k : Nat) : am_run d 39 13 ls (.int i :: .ref k :: st) σ τ = am_ai false k i (fun j => am_run d 39 14 ls (.int (σ k j) :: st) σ τ) := rr_iald dX7_byRule_13
theorem r39_14 (d : Nat) (st : List Value) (σ : am_St) (τ : Int64) (x : Int32) (v0 v1 v2 v3 v4 v5 : Value) : am_run d 39 14 [v0, v1, v2, v3, v4, v5] (.int x :: st) σ τ = am_run d 39 16 [v0, v1, v2, v3, am_nl v4, .int x] st σ τ := rr_istore _ dX7_byRule_14 (by decide) (by first | rfl | (by_cases h : v4.category = 2 <;> simp [am_set1, am_nl, h]))
theorem r39_16 (d : Nat) (st : List Value) (σ : am_St) (τ : Int64) (x : Int32) (v0 v2 v3 v4 v5 : Value) : am_run d 39 16 [v0, .int x, v2, v3, v4, v5] st σ τ = am_run d 39 17 [v0, .int x, v2, v3, v4, v5] (.int x :: st) σ τ := rr_iload_n dX7_byRule_16 rfl
theorem r39_17 (d : Nat) (ls st : List Value) (σ : am_St) (τ : Int64) (x : Int32) : am_run d 39 17 ls (.int x :: st) σ τ = am_run d 39 (am_sw x 1 [44, 52, 59] 66) ls st σ τ := rr_tsw [44, 52, 59] 66 dX7_byRule_17 (by decide) (by decide) (by decide)
theorem r39_44 (d : Nat) (st : List Value) (σ : am_St) (τ : Int64) (x : Nat) (v1 v2 v3 v4 v5 : Value) : am_run d 39 44 [.ref x, v1, v2, v3, v4, v5] st σ τ = am_run d 39 45 [.ref x, v1, v2, v3, v4, v5] (.ref x :: st) σ τ := rr_aload_n dX7_byRule_44 rfl
theorem r39_45 (d : Nat) (ls st : List Value) (σ : am_St) (τ : Int64) (k : Nat) : am_run d 39 45 ls (.ref k :: st) σ τ = am_gf k 7 0 σ τ (fun v => am_run d 39 48 ls (v :: st) σ τ) := rr_getf dX7_byRule_45 (by decide +kernel)
theorem r39_48 (d : Nat) (st : List Value) (σ : am_St) (τ : Int64) (x : Int32) (v0 v1 v2 v3 v4 : Value) : am_run d 39 48 [v0, v1, v2, v3, v4, .int x] st σ τ = am_run d 39 50 [v0, v1, v2, v3, v4, .int x] (.int x :: st) σ τ := rr_iload dX7_byRule_48 rfl
theorem r39_50 (d : Nat) (ls st : List Value) (σ : am_St) (τ : Int64) (i : Int32) (k : Nat) : am_run d 39 50 ls (.int i :: .ref k :: st) σ τ = am_ai false k i (fun j => am_run d 39 51 ls (.int (σ k j) :: st) σ τ) := rr_iald dX7_byRule_50
theorem r39_51 (d : Nat) (ls : List Value) (σ : am_St) (τ : Int64) (x : Int32) : am_run d 39 51 ls [.int x] σ τ = some (some (.int x), σ, τ) := rr_iret dX7_byRule_51 rfl
theorem r39_52 (d : Nat) (st : List Value) (σ : am_St) (τ : Int64) (x : Nat) (v1 v2 v3 v4 v5 : Value) : am_run d 39 52 [.ref x, v1, v2, v3, v4, v5] st σ τ = am_run d 39 53 [.ref x, v1, v2, v3, v4, v5] (.ref x :: st) σ τ := rr_aload_n dX7_byRule_52 rfl
theorem r39_53 (d : Nat) (st : List Value) (σ : am_St) (τ : Int64) (x : Int32) (v0 v1 v2 v3 v4 : Value) : am_run d 39 53 [v0, v1, v2, v3, v4, .int x] st σ τ = am_run d 39 55 [v0, v1, v2, v3, v4, .int x] (.int x :: st) σ τ := rr_iload dX7_byRule_53 rfl
theorem r39_55 (d : Nat) (ls st : List Value) (σ : am_St) (τ : Int64) (k : Nat) (a0 : Int32) (hk : am_kc k = 7) (hc : am_cats st ≤ 8) : am_run (d + 1) 39 55 ls (.int a0 :: .ref k :: st) σ τ = (am_call d 40 [.ref k, .int a0] σ τ).bind (fun r => am_run (d + 1) 39 58 ls (r.1.toList ++ st) r.2.1 r.2.2) := rr_invv [.int a0] dX7_byRule_55 (by decide +kernel) (by decide) rfl (Nat.le_of_ble_eq_true rfl) hk hc
theorem r39_58 (d : Nat) (ls : List Value) (σ : am_St) (τ : Int64) (x : Int32) : am_run d 39 58 ls [.int x] σ τ = some (some (.int x), σ, τ) := rr_iret dX7_byRule_58 rfl
theorem r39_59 (d : Nat) (st : List Value) (σ : am_St) (τ : Int64) (x : Nat) (v1 v2 v3 v4 v5 : Value) : am_run d 39 59 [.ref x, v1, v2, v3, v4, v5] st σ τ = am_run d 39 60 [.ref x, v1, v2, v3, v4, v5] (.ref x :: st) σ τ := rr_aload_n dX7_byRule_59 rfl
theorem r39_60 (d : Nat) (st : List Value) (σ : am_St) (τ : Int64) (x : Int32) (v0 v1 v2 v3 v5 : Value) : am_run d 39 60 [v0, v1, v2, v3, .int x, v5] st σ τ = am_run d 39 62 [v0, v1, v2, v3, .int x, v5] (.int x :: st) σ τ := rr_iload dX7_byRule_60 rfl
theorem r39_62 (d : Nat) (ls st : List Value) (σ : am_St) (τ : Int64) (k : Nat) (a0 : Int32) (hk : am_kc k = 7) (hc : am_cats st ≤ 8) : am_run (d + 1) 39 62 ls (.int a0 :: .ref k :: st) σ τ = (am_call d 40 [.ref k, .int a0] σ τ).bind (fun r => am_run (d + 1) 39 65 ls (r.1.toList ++ st) r.2.1 r.2.2) := rr_invv [.int a0] dX7_byRule_62 (by decide +kernel) (by decide) rfl (Nat.le_of_ble_eq_true rfl) hk hc
theorem r39_65 (d : Nat) (ls : List Value) (σ : am_St) (τ : Int64) (x : Int32) : am_run d 39 65 ls [.int x] σ τ = some (some (.int x), σ, τ) := rr_iret dX7_byRule_65 rfl
theorem r39_66 (d : Nat) (st : List Value) (σ : am_St) (τ : Int64) (x : Nat) (v1 v2 v3 v4 v5 : Value) : am_run d 39 66 [.ref x, v1, v2, v3, v4, v5] st σ τ = am_run d 39 67 [.ref x, v1, v2, v3, v4, v5] (.ref x :: st) σ τ := rr_aload_n dX7_byRule_66 rfl
theorem r39_67 (d : Nat) (ls st : List Value) (σ : am_St) (τ : Int64) (k : Nat) : am_run d 39 67 ls (.ref k :: st) σ τ = am_gf k 7 0 σ τ (fun v => am_run d 39 70 ls (v :: st) σ τ) := rr_getf dX7_byRule_67 (by decide +kernel)
theorem r39_70 (d : Nat) (st : List Value) (σ : am_St) (τ : Int64) (x : Int32) (v0 v1 v2 v3 v5 : Value) : am_run d 39 70 [v0, v1, v2, v3, .int x, v5] st σ τ = am_run d 39 72 [v0, v1, v2, v3, .int x, v5] (.int x :: st) σ τ := rr_iload dX7_byRule_70 rfl
theorem r39_72 (d : Nat) (ls st : List Value) (σ : am_St) (τ : Int64) (i : Int32) (k : Nat) : am_run d 39 72 ls (.int i :: .ref k :: st) σ τ = am_ai false k i (fun j => am_run d 39 73 ls (.int (σ k j) :: st) σ τ) := rr_iald dX7_byRule_72
theorem r39_73 (d : Nat) (ls : List Value) (σ : am_St) (τ : Int64) (x : Int32) : am_run d 39 73 ls [.int x] σ τ = some (some (.int x), σ, τ) := rr_iret dX7_byRule_73 rfl
theorem dX7_ofMotherOf_0 : decode (am_code 40) 0 = .ok (.aload_n 0, 1) := by decide +kernel
theorem dX7_ofMotherOf_1 : decode (am_code 40) 1 = .ok (.getfield 18, 3) := by decide +kernel
theorem dX7_ofMotherOf_4 : decode (am_code 40) 4 = .ok (.getfield 28, 3) := by decide +kernel
theorem dX7_ofMotherOf_7 : decode (am_code 40) 7 = .ok (.iload_n 1, 1) := by decide +kernel
theorem dX7_ofMotherOf_8 : decode (am_code 40) 8 = .ok (.iaload, 1) := by decide +kernel
theorem dX7_ofMotherOf_9 : decode (am_code 40) 9 = .ok (.istore_n 2, 1) := by decide +kernel
theorem dX7_ofMotherOf_10 : decode (am_code 40) 10 = .ok (.iload_n 2, 1) := by decide +kernel
theorem dX7_ofMotherOf_11 : decode (am_code 40) 11 = .ok (.ifCond .ge 12, 3) := by decide +kernel
theorem dX7_ofMotherOf_14 : decode (am_code 40) 14 = .ok (.aload_n 0, 1) := by decide +kernel
theorem dX7_ofMotherOf_15 : decode (am_code 40) 15 = .ok (.getfield 9, 3) := by decide +kernel
theorem dX7_ofMotherOf_18 : decode (am_code 40) 18 = .ok (.iload_n 1, 1) := by decide +kernel
theorem dX7_ofMotherOf_19 : decode (am_code 40) 19 = .ok (.iaload, 1) := by decide +kernel
theorem dX7_ofMotherOf_20 : decode (am_code 40) 20 = .ok (.goto 9, 3) := by decide +kernel
theorem dX7_ofMotherOf_23 : decode (am_code 40) 23 = .ok (.aload_n 0, 1) := by decide +kernel
theorem dX7_ofMotherOf_24 : decode (am_code 40) 24 = .ok (.getfield 9, 3) := by decide +kernel
theorem dX7_ofMotherOf_27 : decode (am_code 40) 27 = .ok (.iload_n 2, 1) := by decide +kernel
theorem dX7_ofMotherOf_28 : decode (am_code 40) 28 = .ok (.iaload, 1) := by decide +kernel
theorem dX7_ofMotherOf_29 : decode (am_code 40) 29 = .ok (.ireturn, 1) := by decide +kernel
theorem r40_0 (d : Nat) (st : List Value) (σ : am_St) (τ : Int64) (x : Nat) (v1 v2 : Value) : am_run d 40 0 [.ref x, v1, v2] st σ τ = am_run d 40 1 [.ref x, v1, v2] (.ref x :: st) σ τ := rr_aload_n dX7_ofMotherOf_0 rfl
theorem r40_1 (d : Nat) (ls st : List Value) (σ : am_St) (τ : Int64) (k : Nat) : am_run d 40 1 ls (.ref k :: st) σ τ = am_gf k 7 2 σ τ (fun v => am_run d 40 4 ls (v :: st) σ τ) := rr_getf dX7_ofMotherOf_1 (by decide +kernel)
theorem r40_4 (d : Nat) (ls st : List Value) (σ : am_St) (τ : Int64) (k : Nat) : am_run d 40 4 ls (.ref k :: st) σ τ = am_gf k 1 4 σ τ (fun v => am_run d 40 7 ls (v :: st) σ τ) := rr_getf dX7_ofMotherOf_4 (by decide +kernel)
theorem r40_7 (d : Nat) (st : List Value) (σ : am_St) (τ : Int64) (x : Int32) (v0 v2 : Value) : am_run d 40 7 [v0, .int x, v2] st σ τ = am_run d 40 8 [v0, .int x, v2] (.int x :: st) σ τ := rr_iload_n dX7_ofMotherOf_7 rfl
theorem r40_8 (d : Nat) (ls st : List Value) (σ : am_St) (τ : Int64) (i : Int32) (k : Nat) : am_run d 40 8 ls (.int i :: .ref k :: st) σ τ = am_ai false k i (fun j => am_run d 40 9 ls (.int (σ k j) :: st) σ τ) := rr_iald dX7_ofMotherOf_8
theorem r40_9 (d : Nat) (st : List Value) (σ : am_St) (τ : Int64) (x : Int32) (v0 v1 v2 : Value) : am_run d 40 9 [v0, v1, v2] (.int x :: st) σ τ = am_run d 40 10 [v0, am_nl v1, .int x] st σ τ := rr_istore_n _ dX7_ofMotherOf_9 (by decide) (by first | rfl | (by_cases h : v1.category = 2 <;> simp [am_set1, am_nl, h]))
theorem r40_10 (d : Nat) (st : List Value) (σ : am_St) (τ : Int64) (x : Int32) (v0 v1 : Value) : am_run d 40 10 [v0, v1, .int x] st σ τ = am_run d 40 11 [v0, v1, .int x] (.int x :: st) σ τ := rr_iload_n dX7_ofMotherOf_10 rfl
theorem r40_11 (d : Nat) (ls st : List Value) (σ : am_St) (τ : Int64) (x : Int32) : am_run d 40 11 ls (.int x :: st) σ τ = if 0 ≤ x then am_run d 40 23 ls st σ τ else am_run d 40 14 ls st σ τ := (rr_if 23 dX7_ofMotherOf_11 (by decide)).trans am_sel
theorem r40_14 (d : Nat) (st : List Value) (σ : am_St) (τ : Int64) (x : Nat) (v1 v2 : Value) : am_run d 40 14 [.ref x, v1, v2] st σ τ = am_run d 40 15 [.ref x, v1, v2] (.ref x :: st) σ τ := rr_aload_n dX7_ofMotherOf_14 rfl
theorem r40_15 (d : Nat) (ls st : List Value) (σ : am_St) (τ : Int64) (k : Nat) : am_run d 40 15 ls (.ref k :: st) σ τ = am_gf k 7 0 σ τ (fun v => am_run d 40 18 ls (v :: st) σ τ) := rr_getf dX7_ofMotherOf_15 (by decide +kernel)
theorem r40_18 (d : Nat) (st : List Value) (σ : am_St) (τ : Int64) (x : Int32) (v0 v2 : Value) : am_run d 40 18 [v0, .int x, v2] st σ τ = am_run d 40 19 [v0, .int x, v2] (.int x :: st) σ τ := rr_iload_n dX7_ofMotherOf_18 rfl
theorem r40_19 (d : Nat) (ls st : List Value) (σ : am_St) (τ : Int64) (i : Int32) (k : Nat) : am_run d 40 19 ls (.int i :: .ref k :: st) σ τ = am_ai false k i (fun j => am_run d 40 20 ls (.int (σ k j) :: st) σ τ) := rr_iald dX7_ofMotherOf_19
theorem r40_20 (d : Nat) (ls st : List Value) (σ : am_St) (τ : Int64) : am_run d 40 20 ls st σ τ = am_run d 40 29 ls st σ τ := rr_goto 29 dX7_ofMotherOf_20 (by decide)
theorem r40_23 (d : Nat) (st : List Value) (σ : am_St) (τ : Int64) (x : Nat) (v1 v2 : Value) : am_run d 40 23 [.ref x, v1, v2] st σ τ = am_run d 40 24 [.ref x, v1, v2] (.ref x :: st) σ τ := rr_aload_n dX7_ofMotherOf_23 rfl
theorem r40_24 (d : Nat) (ls st : List Value) (σ : am_St) (τ : Int64) (k : Nat) : am_run d 40 24 ls (.ref k :: st) σ τ = am_gf k 7 0 σ τ (fun v => am_run d 40 27 ls (v :: st) σ τ) := rr_getf dX7_ofMotherOf_24 (by decide +kernel)
theorem r40_27 (d : Nat) (st : List Value) (σ : am_St) (τ : Int64) (x : Int32) (v0 v1 : Value) : am_run d 40 27 [v0, v1, .int x] st σ τ = am_run d 40 28 [v0, v1, .int x] (.int x :: st) σ τ := rr_iload_n dX7_ofMotherOf_27 rfl
theorem r40_28 (d : Nat) (ls st : List Value) (σ : am_St) (τ : Int64) (i : Int32) (k : Nat) : am_run d 40 28 ls (.int i :: .ref k :: st) σ τ = am_ai false k i (fun j => am_run d 40 29 ls (.int (σ k j) :: st) σ τ) := rr_iald dX7_ofMotherOf_28
theorem r40_29 (d : Nat) (ls : List Value) (σ : am_St) (τ : Int64) (x : Int32) : am_run d 40 29 ls [.int x] σ τ = some (some (.int x), σ, τ) := rr_iret dX7_ofMotherOf_29 rfl
theorem dX7_isWrong_0 : decode (am_code 41) 0 = .ok (.aload_n 0, 1) := by decide +kernel
theorem dX7_isWrong_1 : decode (am_code 41) 1 = .ok (.getfield 18, 3) := by decide +kernel
theorem dX7_isWrong_4 : decode (am_code 41) 4 = .ok (.getfield 68, 3) := by decide +kernel
theorem dX7_isWrong_7 : decode (am_code 41) 7 = .ok (.iload_n 1, 1) := by decide +kernel
theorem dX7_isWrong_8 : decode (am_code 41) 8 = .ok (.iaload, 1) := by decide +kernel
theorem dX7_isWrong_9 : decode (am_code 41) 9 = .ok (.iconst (-1), 1) := by decide +kernel
theorem dX7_isWrong_10 : decode (am_code 41) 10 = .ok (.if_icmp .eq 25, 3) := by decide +kernel
theorem dX7_isWrong_13 : decode (am_code 41) 13 = .ok (.aload_n 0, 1) := by decide +kernel
theorem dX7_isWrong_14 : decode (am_code 41) 14 = .ok (.getfield 18, 3) := by decide +kernel
theorem dX7_isWrong_17 : decode (am_code 41) 17 = .ok (.getfield 68, 3) := by decide +kernel
theorem dX7_isWrong_20 : decode (am_code 41) 20 = .ok (.iload_n 1, 1) := by decide +kernel
theorem dX7_isWrong_21 : decode (am_code 41) 21 = .ok (.iaload, 1) := by decide +kernel
theorem dX7_isWrong_22 : decode (am_code 41) 22 = .ok (.aload_n 0, 1) := by decide +kernel
theorem dX7_isWrong_23 : decode (am_code 41) 23 = .ok (.getfield 9, 3) := by decide +kernel
theorem dX7_isWrong_26 : decode (am_code 41) 26 = .ok (.iload_n 1, 1) := by decide +kernel
theorem dX7_isWrong_27 : decode (am_code 41) 27 = .ok (.iaload, 1) := by decide +kernel
theorem dX7_isWrong_28 : decode (am_code 41) 28 = .ok (.if_icmp .eq 7, 3) := by decide +kernel
theorem dX7_isWrong_31 : decode (am_code 41) 31 = .ok (.iconst 1, 1) := by decide +kernel
theorem dX7_isWrong_32 : decode (am_code 41) 32 = .ok (.goto 4, 3) := by decide +kernel
theorem dX7_isWrong_35 : decode (am_code 41) 35 = .ok (.iconst 0, 1) := by decide +kernel
theorem dX7_isWrong_36 : decode (am_code 41) 36 = .ok (.ireturn, 1) := by decide +kernel
theorem r41_0 (d : Nat) (st : List Value) (σ : am_St) (τ : Int64) (x : Nat) (v1 : Value) : am_run d 41 0 [.ref x, v1] st σ τ = am_run d 41 1 [.ref x, v1] (.ref x :: st) σ τ := rr_aload_n dX7_isWrong_0 rfl
theorem r41_1 (d : Nat) (ls st : List Value) (σ : am_St) (τ : Int64) (k : Nat) : am_run d 41 1 ls (.ref k :: st) σ τ = am_gf k 7 2 σ τ (fun v => am_run d 41 4 ls (v :: st) σ τ) := rr_getf dX7_isWrong_1 (by decide +kernel)
theorem r41_4 (d : Nat) (ls st : List Value) (σ : am_St) (τ : Int64) (k : Nat) : am_run d 41 4 ls (.ref k :: st) σ τ = am_gf k 1 8 σ τ (fun v => am_run d 41 7 ls (v :: st) σ τ) := rr_getf dX7_isWrong_4 (by decide +kernel)
theorem r41_7 (d : Nat) (st : List Value) (σ : am_St) (τ : Int64) (x : Int32) (v0 : Value) : am_run d 41 7 [v0, .int x] st σ τ = am_run d 41 8 [v0, .int x] (.int x :: st) σ τ := rr_iload_n dX7_isWrong_7 rfl
theorem r41_8 (d : Nat) (ls st : List Value) (σ : am_St) (τ : Int64) (i : Int32) (k : Nat) : am_run d 41 8 ls (.int i :: .ref k :: st) σ τ = am_ai false k i (fun j => am_run d 41 9 ls (.int (σ k j) :: st) σ τ) := rr_iald dX7_isWrong_8
theorem r41_9 (d : Nat) (ls st : List Value) (σ : am_St) (τ : Int64) : am_run d 41 9 ls st σ τ = am_run d 41 10 ls (.int (-1) :: st) σ τ := rr_iconst (-1) dX7_isWrong_9 (by decide)
theorem r41_10 (d : Nat) (ls st : List Value) (σ : am_St) (τ : Int64) (x y : Int32) : am_run d 41 10 ls (.int y :: .int x :: st) σ τ = if x = y then am_run d 41 35 ls st σ τ else am_run d 41 13 ls st σ τ := (rr_icmp 35 dX7_isWrong_10 (by decide)).trans am_sel
theorem r41_13 (d : Nat) (st : List Value) (σ : am_St) (τ : Int64) (x : Nat) (v1 : Value) : am_run d 41 13 [.ref x, v1] st σ τ = am_run d 41 14 [.ref x, v1] (.ref x :: st) σ τ := rr_aload_n dX7_isWrong_13 rfl
theorem r41_14 (d : Nat) (ls st : List Value) (σ : am_St) (τ : Int64) (k : Nat) : am_run d 41 14 ls (.ref k :: st) σ τ = am_gf k 7 2 σ τ (fun v => am_run d 41 17 ls (v :: st) σ τ) := rr_getf dX7_isWrong_14 (by decide +kernel)
theorem r41_17 (d : Nat) (ls st : List Value) (σ : am_St) (τ : Int64) (k : Nat) : am_run d 41 17 ls (.ref k :: st) σ τ = am_gf k 1 8 σ τ (fun v => am_run d 41 20 ls (v :: st) σ τ) := rr_getf dX7_isWrong_17 (by decide +kernel)
theorem r41_20 (d : Nat) (st : List Value) (σ : am_St) (τ : Int64) (x : Int32) (v0 : Value) : am_run d 41 20 [v0, .int x] st σ τ = am_run d 41 21 [v0, .int x] (.int x :: st) σ τ := rr_iload_n dX7_isWrong_20 rfl
theorem r41_21 (d : Nat) (ls st : List Value) (σ : am_St) (τ : Int64) (i : Int32) (k : Nat) : am_run d 41 21 ls (.int i :: .ref k :: st) σ τ = am_ai false k i (fun j => am_run d 41 22 ls (.int (σ k j) :: st) σ τ) := rr_iald dX7_isWrong_21
theorem r41_22 (d : Nat) (st : List Value) (σ : am_St) (τ : Int64) (x : Nat) (v1 : Value) : am_run d 41 22 [.ref x, v1] st σ τ = am_run d 41 23 [.ref x, v1] (.ref x :: st) σ τ := rr_aload_n dX7_isWrong_22 rfl
theorem r41_23 (d : Nat) (ls st : List Value) (σ : am_St) (τ : Int64) (k : Nat) : am_run d 41 23 ls (.ref k :: st) σ τ = am_gf k 7 0 σ τ (fun v => am_run d 41 26 ls (v :: st) σ τ) := rr_getf dX7_isWrong_23 (by decide +kernel)
theorem r41_26 (d : Nat) (st : List Value) (σ : am_St) (τ : Int64) (x : Int32) (v0 : Value) : am_run d 41 26 [v0, .int x] st σ τ = am_run d 41 27 [v0, .int x] (.int x :: st) σ τ := rr_iload_n dX7_isWrong_26 rfl
theorem r41_27 (d : Nat) (ls st : List Value) (σ : am_St) (τ : Int64) (i : Int32) (k : Nat) : am_run d 41 27 ls (.int i :: .ref k :: st) σ τ = am_ai false k i (fun j => am_run d 41 28 ls (.int (σ k j) :: st) σ τ) := rr_iald dX7_isWrong_27
theorem r41_28 (d : Nat) (ls st : List Value) (σ : am_St) (τ : Int64) (x y : Int32) : am_run d 41 28 ls (.int y :: .int x :: st) σ τ = if x = y then am_run d 41 35 ls st σ τ else am_run d 41 31 ls st σ τ := (rr_icmp 35 dX7_isWrong_28 (by decide)).trans am_sel
theorem r41_31 (d : Nat) (ls st : List Value) (σ : am_St) (τ : Int64) : am_run d 41 31 ls st σ τ = am_run d 41 32 ls (.int 1 :: st) σ τ := rr_iconst 1 dX7_isWrong_31 (by decide)
theorem r41_32 (d : Nat) (ls st : List Value) (σ : am_St) (τ : Int64) : am_run d 41 32 ls st σ τ = am_run d 41 36 ls st σ τ := rr_goto 36 dX7_isWrong_32 (by decide)
theorem r41_35 (d : Nat) (ls st : List Value) (σ : am_St) (τ : Int64) : am_run d 41 35 ls st σ τ = am_run d 41 36 ls (.int 0 :: st) σ τ := rr_iconst 0 dX7_isWrong_35 (by decide)
theorem r41_36 (d : Nat) (ls : List Value) (σ : am_St) (τ : Int64) (x : Int32) (hx : x = 0 ∨ x = 1) : am_run d 41 36 ls [.int x] σ τ = some (some (.int x), σ, τ) := rr_zret dX7_isWrong_36 rfl hx
theorem dX7_errors_0 : decode (am_code 42) 0 = .ok (.iconst 0, 1) := by decide +kernel
theorem dX7_errors_1 : decode (am_code 42) 1 = .ok (.istore_n 1, 1) := by decide +kernel
theorem dX7_errors_2 : decode (am_code 42) 2 = .ok (.iconst 0, 1) := by decide +kernel
theorem dX7_errors_3 : decode (am_code 42) 3 = .ok (.istore_n 2, 1) := by decide +kernel
theorem dX7_errors_4 : decode (am_code 42) 4 = .ok (.iload_n 2, 1) := by decide +kernel
theorem dX7_errors_5 : decode (am_code 42) 5 = .ok (.aload_n 0, 1) := by decide +kernel
theorem dX7_errors_6 : decode (am_code 42) 6 = .ok (.getfield 18, 3) := by decide +kernel
theorem dX7_errors_9 : decode (am_code 42) 9 = .ok (.getfield 22, 3) := by decide +kernel
theorem dX7_errors_12 : decode (am_code 42) 12 = .ok (.if_icmp .ge 25, 3) := by decide +kernel
theorem dX7_errors_15 : decode (am_code 42) 15 = .ok (.iload_n 1, 1) := by decide +kernel
theorem dX7_errors_16 : decode (am_code 42) 16 = .ok (.aload_n 0, 1) := by decide +kernel
theorem dX7_errors_17 : decode (am_code 42) 17 = .ok (.iload_n 2, 1) := by decide +kernel
theorem dX7_errors_18 : decode (am_code 42) 18 = .ok (.invokevirtual 71, 3) := by decide +kernel
theorem dX7_errors_21 : decode (am_code 42) 21 = .ok (.ifCond .eq 7, 3) := by decide +kernel
theorem dX7_errors_24 : decode (am_code 42) 24 = .ok (.iconst 1, 1) := by decide +kernel
theorem dX7_errors_25 : decode (am_code 42) 25 = .ok (.goto 4, 3) := by decide +kernel
theorem dX7_errors_28 : decode (am_code 42) 28 = .ok (.iconst 0, 1) := by decide +kernel
theorem dX7_errors_29 : decode (am_code 42) 29 = .ok (.iadd, 1) := by decide +kernel
theorem dX7_errors_30 : decode (am_code 42) 30 = .ok (.istore_n 1, 1) := by decide +kernel
theorem dX7_errors_31 : decode (am_code 42) 31 = .ok (.iinc 2 1, 3) := by decide +kernel
theorem dX7_errors_34 : decode (am_code 42) 34 = .ok (.goto (-30), 3) := by decide +kernel
theorem dX7_errors_37 : decode (am_code 42) 37 = .ok (.iload_n 1, 1) := by decide +kernel
theorem dX7_errors_38 : decode (am_code 42) 38 = .ok (.ireturn, 1) := by decide +kernel
theorem r42_0 (d : Nat) (ls st : List Value) (σ : am_St) (τ : Int64) : am_run d 42 0 ls st σ τ = am_run d 42 1 ls (.int 0 :: st) σ τ := rr_iconst 0 dX7_errors_0 (by decide)
theorem r42_1 (d : Nat) (st : List Value) (σ : am_St) (τ : Int64) (x : Int32) (v0 v1 v2 : Value) : am_run d 42 1 [v0, v1, v2] (.int x :: st) σ τ = am_run d 42 2 [am_nl v0, .int x, v2] st σ τ := rr_istore_n _ dX7_errors_1 (by decide) (by first | rfl | (by_cases h : v0.category = 2 <;> simp [am_set1, am_nl, h]))
theorem r42_2 (d : Nat) (ls st : List Value) (σ : am_St) (τ : Int64) : am_run d 42 2 ls st σ τ = am_run d 42 3 ls (.int 0 :: st) σ τ := rr_iconst 0 dX7_errors_2 (by decide)
theorem r42_3 (d : Nat) (st : List Value) (σ : am_St) (τ : Int64) (x : Int32) (v0 v1 v2 : Value) : am_run d 42 3 [v0, v1, v2] (.int x :: st) σ τ = am_run d 42 4 [v0, am_nl v1, .int x] st σ τ := rr_istore_n _ dX7_errors_3 (by decide) (by first | rfl | (by_cases h : v1.category = 2 <;> simp [am_set1, am_nl, h]))
theorem r42_4 (d : Nat) (st : List Value) (σ : am_St) (τ : Int64) (x : Int32) (v0 v1 : Value) : am_run d 42 4 [v0, v1, .int x] st σ τ = am_run d 42 5 [v0, v1, .int x] (.int x :: st) σ τ := rr_iload_n dX7_errors_4 rfl
theorem r42_5 (d : Nat) (st : List Value) (σ : am_St) (τ : Int64) (x : Nat) (v1 v2 : Value) : am_run d 42 5 [.ref x, v1, v2] st σ τ = am_run d 42 6 [.ref x, v1, v2] (.ref x :: st) σ τ := rr_aload_n dX7_errors_5 rfl
theorem r42_6 (d : Nat) (ls st : List Value) (σ : am_St) (τ : Int64) (k : Nat) : am_run d 42 6 ls (.ref k :: st) σ τ = am_gf k 7 2 σ τ (fun v => am_run d 42 9 ls (v :: st) σ τ) := rr_getf dX7_errors_6 (by decide +kernel)
theorem r42_9 (d : Nat) (ls st : List Value) (σ : am_St) (τ : Int64) (k : Nat) : am_run d 42 9 ls (.ref k :: st) σ τ = am_gf k 1 0 σ τ (fun v => am_run d 42 12 ls (v :: st) σ τ) := rr_getf dX7_errors_9 (by decide +kernel)
theorem r42_12 (d : Nat) (ls st : List Value) (σ : am_St) (τ : Int64) (x y : Int32) : am_run d 42 12 ls (.int y :: .int x :: st) σ τ = if y ≤ x then am_run d 42 37 ls st σ τ else am_run d 42 15 ls st σ τ := (rr_icmp 37 dX7_errors_12 (by decide)).trans am_sel
theorem r42_15 (d : Nat) (st : List Value) (σ : am_St) (τ : Int64) (x : Int32) (v0 v2 : Value) : am_run d 42 15 [v0, .int x, v2] st σ τ = am_run d 42 16 [v0, .int x, v2] (.int x :: st) σ τ := rr_iload_n dX7_errors_15 rfl
theorem r42_16 (d : Nat) (st : List Value) (σ : am_St) (τ : Int64) (x : Nat) (v1 v2 : Value) : am_run d 42 16 [.ref x, v1, v2] st σ τ = am_run d 42 17 [.ref x, v1, v2] (.ref x :: st) σ τ := rr_aload_n dX7_errors_16 rfl
theorem r42_17 (d : Nat) (st : List Value) (σ : am_St) (τ : Int64) (x : Int32) (v0 v1 : Value) : am_run d 42 17 [v0, v1, .int x] st σ τ = am_run d 42 18 [v0, v1, .int x] (.int x :: st) σ τ := rr_iload_n dX7_errors_17 rfl
theorem r42_18 (d : Nat) (ls st : List Value) (σ : am_St) (τ : Int64) (k : Nat) (a0 : Int32) (hk : am_kc k = 7) (hc : am_cats st ≤ 8) : am_run (d + 1) 42 18 ls (.int a0 :: .ref k :: st) σ τ = (am_call d 41 [.ref k, .int a0] σ τ).bind (fun r => am_run (d + 1) 42 21 ls (r.1.toList ++ st) r.2.1 r.2.2) := rr_invv [.int a0] dX7_errors_18 (by decide +kernel) (by decide) rfl (Nat.le_of_ble_eq_true rfl) hk hc
theorem r42_21 (d : Nat) (ls st : List Value) (σ : am_St) (τ : Int64) (x : Int32) : am_run d 42 21 ls (.int x :: st) σ τ = if x = 0 then am_run d 42 28 ls st σ τ else am_run d 42 24 ls st σ τ := (rr_if 28 dX7_errors_21 (by decide)).trans am_sel
theorem r42_24 (d : Nat) (ls st : List Value) (σ : am_St) (τ : Int64) : am_run d 42 24 ls st σ τ = am_run d 42 25 ls (.int 1 :: st) σ τ := rr_iconst 1 dX7_errors_24 (by decide)
theorem r42_25 (d : Nat) (ls st : List Value) (σ : am_St) (τ : Int64) : am_run d 42 25 ls st σ τ = am_run d 42 29 ls st σ τ := rr_goto 29 dX7_errors_25 (by decide)
theorem r42_28 (d : Nat) (ls st : List Value) (σ : am_St) (τ : Int64) : am_run d 42 28 ls st σ τ = am_run d 42 29 ls (.int 0 :: st) σ τ := rr_iconst 0 dX7_errors_28 (by decide)
theorem r42_29 (d : Nat) (ls st : List Value) (σ : am_St) (τ : Int64) (x y : Int32) : am_run d 42 29 ls (.int y :: .int x :: st) σ τ = am_run d 42 30 ls (.int (x + y) :: st) σ τ := rr_iadd dX7_errors_29
theorem r42_30 (d : Nat) (st : List Value) (σ : am_St) (τ : Int64) (x : Int32) (v0 v1 v2 : Value) : am_run d 42 30 [v0, v1, v2] (.int x :: st) σ τ = am_run d 42 31 [am_nl v0, .int x, v2] st σ τ := rr_istore_n _ dX7_errors_30 (by decide) (by first | rfl | (by_cases h : v0.category = 2 <;> simp [am_set1, am_nl, h]))
theorem r42_31 (d : Nat) (st : List Value) (σ : am_St) (τ : Int64) (x : Int32) (v0 v1 : Value) : am_run d 42 31 [v0, v1, .int x] st σ τ = am_run d 42 34 [v0, am_nl v1, .int (x + 1)] st σ τ := rr_iinc 1 _ dX7_errors_31 rfl (by decide) (by decide) (by first | rfl | (by_cases h : v1.category = 2 <;> simp [am_set1, am_nl, h]))
theorem r42_34 (d : Nat) (ls st : List Value) (σ : am_St) (τ : Int64) : am_run d 42 34 ls st σ τ = am_run d 42 4 ls st σ τ := rr_goto 4 dX7_errors_34 (by decide)
theorem r42_37 (d : Nat) (st : List Value) (σ : am_St) (τ : Int64) (x : Int32) (v0 v2 : Value) : am_run d 42 37 [v0, .int x, v2] st σ τ = am_run d 42 38 [v0, .int x, v2] (.int x :: st) σ τ := rr_iload_n dX7_errors_37 rfl
theorem r42_38 (d : Nat) (ls : List Value) (σ : am_St) (τ : Int64) (x : Int32) : am_run d 42 38 ls [.int x] σ τ = some (some (.int x), σ, τ) := rr_iret dX7_errors_38 rfl
theorem dX7_firstError_0 : decode (am_code 43) 0 = .ok (.iconst 0, 1) := by decide +kernel
theorem dX7_firstError_1 : decode (am_code 43) 1 = .ok (.istore_n 1, 1) := by decide +kernel
theorem dX7_firstError_2 : decode (am_code 43) 2 = .ok (.iload_n 1, 1) := by decide +kernel
theorem dX7_firstError_3 : decode (am_code 43) 3 = .ok (.aload_n 0, 1) := by decide +kernel
theorem dX7_firstError_4 : decode (am_code 43) 4 = .ok (.getfield 18, 3) := by decide +kernel
theorem dX7_firstError_7 : decode (am_code 43) 7 = .ok (.getfield 22, 3) := by decide +kernel
theorem dX7_firstError_10 : decode (am_code 43) 10 = .ok (.if_icmp .ge 19, 3) := by decide +kernel
theorem dX7_firstError_13 : decode (am_code 43) 13 = .ok (.aload_n 0, 1) := by decide +kernel
theorem dX7_firstError_14 : decode (am_code 43) 14 = .ok (.iload_n 1, 1) := by decide +kernel
theorem dX7_firstError_15 : decode (am_code 43) 15 = .ok (.invokevirtual 71, 3) := by decide +kernel
theorem dX7_firstError_18 : decode (am_code 43) 18 = .ok (.ifCond .eq 5, 3) := by decide +kernel
theorem dX7_firstError_21 : decode (am_code 43) 21 = .ok (.iload_n 1, 1) := by decide +kernel
theorem dX7_firstError_22 : decode (am_code 43) 22 = .ok (.ireturn, 1) := by decide +kernel
theorem dX7_firstError_23 : decode (am_code 43) 23 = .ok (.iinc 1 1, 3) := by decide +kernel
theorem dX7_firstError_26 : decode (am_code 43) 26 = .ok (.goto (-24), 3) := by decide +kernel
theorem dX7_firstError_29 : decode (am_code 43) 29 = .ok (.iconst (-1), 1) := by decide +kernel
theorem dX7_firstError_30 : decode (am_code 43) 30 = .ok (.ireturn, 1) := by decide +kernel
theorem r43_0 (d : Nat) (ls st : List Value) (σ : am_St) (τ : Int64) : am_run d 43 0 ls st σ τ = am_run d 43 1 ls (.int 0 :: st) σ τ := rr_iconst 0 dX7_firstError_0 (by decide)
theorem r43_1 (d : Nat) (st : List Value) (σ : am_St) (τ : Int64) (x : Int32) (v0 v1 : Value) : am_run d 43 1 [v0, v1] (.int x :: st) σ τ = am_run d 43 2 [am_nl v0, .int x] st σ τ := rr_istore_n _ dX7_firstError_1 (by decide) (by first | rfl | (by_cases h : v0.category = 2 <;> simp [am_set1, am_nl, h]))
theorem r43_2 (d : Nat) (st : List Value) (σ : am_St) (τ : Int64) (x : Int32) (v0 : Value) : am_run d 43 2 [v0, .int x] st σ τ = am_run d 43 3 [v0, .int x] (.int x :: st) σ τ := rr_iload_n dX7_firstError_2 rfl
theorem r43_3 (d : Nat) (st : List Value) (σ : am_St) (τ : Int64) (x : Nat) (v1 : Value) : am_run d 43 3 [.ref x, v1] st σ τ = am_run d 43 4 [.ref x, v1] (.ref x :: st) σ τ := rr_aload_n dX7_firstError_3 rfl
theorem r43_4 (d : Nat) (ls st : List Value) (σ : am_St) (τ : Int64) (k : Nat) : am_run d 43 4 ls (.ref k :: st) σ τ = am_gf k 7 2 σ τ (fun v => am_run d 43 7 ls (v :: st) σ τ) := rr_getf dX7_firstError_4 (by decide +kernel)
theorem r43_7 (d : Nat) (ls st : List Value) (σ : am_St) (τ : Int64) (k : Nat) : am_run d 43 7 ls (.ref k :: st) σ τ = am_gf k 1 0 σ τ (fun v => am_run d 43 10 ls (v :: st) σ τ) := rr_getf dX7_firstError_7 (by decide +kernel)
theorem r43_10 (d : Nat) (ls st : List Value) (σ : am_St) (τ : Int64) (x y : Int32) : am_run d 43 10 ls (.int y :: .int x :: st) σ τ = if y ≤ x then am_run d 43 29 ls st σ τ else am_run d 43 13 ls st σ τ := (rr_icmp 29 dX7_firstError_10 (by decide)).trans am_sel
theorem r43_13 (d : Nat) (st : List Value) (σ : am_St) (τ : Int64) (x : Nat) (v1 : Value) : am_run d 43 13 [.ref x, v1] st σ τ = am_run d 43 14 [.ref x, v1] (.ref x :: st) σ τ := rr_aload_n dX7_firstError_13 rfl
theorem r43_14 (d : Nat) (st : List Value) (σ : am_St) (τ : Int64) (x : Int32) (v0 : Value) : am_run d 43 14 [v0, .int x] st σ τ = am_run d 43 15 [v0, .int x] (.int x :: st) σ τ := rr_iload_n dX7_firstError_14 rfl
theorem r43_15 (d : Nat) (ls st : List Value) (σ : am_St) (τ : Int64) (k : Nat) (a0 : Int32) (hk : am_kc k = 7) (hc : am_cats st ≤ 8) : am_run (d + 1) 43 15 ls (.int a0 :: .ref k :: st) σ τ = (am_call d 41 [.ref k, .int a0] σ τ).bind (fun r => am_run (d + 1) 43 18 ls (r.1.toList ++ st) r.2.1 r.2.2) := rr_invv [.int a0] dX7_firstError_15 (by decide +kernel) (by decide) rfl (Nat.le_of_ble_eq_true rfl) hk hc
theorem r43_18 (d : Nat) (ls st : List Value) (σ : am_St) (τ : Int64) (x : Int32) : am_run d 43 18 ls (.int x :: st) σ τ = if x = 0 then am_run d 43 23 ls st σ τ else am_run d 43 21 ls st σ τ := (rr_if 23 dX7_firstError_18 (by decide)).trans am_sel
theorem r43_21 (d : Nat) (st : List Value) (σ : am_St) (τ : Int64) (x : Int32) (v0 : Value) : am_run d 43 21 [v0, .int x] st σ τ = am_run d 43 22 [v0, .int x] (.int x :: st) σ τ := rr_iload_n dX7_firstError_21 rfl
theorem r43_22 (d : Nat) (ls : List Value) (σ : am_St) (τ : Int64) (x : Int32) : am_run d 43 22 ls [.int x] σ τ = some (some (.int x), σ, τ) := rr_iret dX7_firstError_22 rfl
theorem r43_23 (d : Nat) (st : List Value) (σ : am_St) (τ : Int64) (x : Int32) (v0 : Value) : am_run d 43 23 [v0, .int x] st σ τ = am_run d 43 26 [am_nl v0, .int (x + 1)] st σ τ := rr_iinc 1 _ dX7_firstError_23 rfl (by decide) (by decide) (by first | rfl | (by_cases h : v0.category = 2 <;> simp [am_set1, am_nl, h]))
theorem r43_26 (d : Nat) (ls st : List Value) (σ : am_St) (τ : Int64) : am_run d 43 26 ls st σ τ = am_run d 43 2 ls st σ τ := rr_goto 2 dX7_firstError_26 (by decide)
theorem r43_29 (d : Nat) (ls st : List Value) (σ : am_St) (τ : Int64) : am_run d 43 29 ls st σ τ = am_run d 43 30 ls (.int (-1) :: st) σ τ := rr_iconst (-1) dX7_firstError_29 (by decide)
theorem r43_30 (d : Nat) (ls : List Value) (σ : am_St) (τ : Int64) (x : Int32) : am_run d 43 30 ls [.int x] σ τ = some (some (.int x), σ, τ) := rr_iret dX7_firstError_30 rfl
theorem dX6_search_0 : decode (am_code 30) 0 = .ok (.aload_n 0, 1) := by decide +kernel
theorem dX6_search_1 : decode (am_code 30) 1 = .ok (.invokevirtual 29, 3) := by decide +kernel
theorem dX6_search_4 : decode (am_code 30) 4 = .ok (.istore_n 2, 1) := by decide +kernel
theorem dX6_search_5 : decode (am_code 30) 5 = .ok (.aload_n 0, 1) := by decide +kernel
theorem dX6_search_6 : decode (am_code 30) 6 = .ok (.bipush 13, 2) := by decide +kernel
theorem dX6_search_8 : decode (am_code 30) 8 = .ok (.putfield 33, 3) := by decide +kernel
theorem dX6_search_11 : decode (am_code 30) 11 = .ok (.iconst 0, 1) := by decide +kernel
theorem dX6_search_12 : decode (am_code 30) 12 = .ok (.istore_n 3, 1) := by decide +kernel
theorem dX6_search_13 : decode (am_code 30) 13 = .ok (.iload_n 3, 1) := by decide +kernel
theorem dX6_search_14 : decode (am_code 30) 14 = .ok (.iload_n 2, 1) := by decide +kernel
theorem dX6_search_15 : decode (am_code 30) 15 = .ok (.if_icmp .ge 69, 3) := by decide +kernel
theorem dX6_search_18 : decode (am_code 30) 18 = .ok (.aload_n 0, 1) := by decide +kernel
theorem dX6_search_19 : decode (am_code 30) 19 = .ok (.getfield 33, 3) := by decide +kernel
theorem dX6_search_22 : decode (am_code 30) 22 = .ok (.ifCond .le 62, 3) := by decide +kernel
theorem dX6_search_25 : decode (am_code 30) 25 = .ok (.aload_n 0, 1) := by decide +kernel
theorem dX6_search_26 : decode (am_code 30) 26 = .ok (.iload_n 3, 1) := by decide +kernel
theorem dX6_search_27 : decode (am_code 30) 27 = .ok (.invokevirtual 37, 3) := by decide +kernel
theorem dX6_search_30 : decode (am_code 30) 30 = .ok (.aload_n 0, 1) := by decide +kernel
theorem dX6_search_31 : decode (am_code 30) 31 = .ok (.getfield 25, 3) := by decide +kernel
theorem dX6_search_34 : decode (am_code 30) 34 = .ok (.aload_n 0, 1) := by decide +kernel
theorem dX6_search_35 : decode (am_code 30) 35 = .ok (.getfield 21, 3) := by decide +kernel
theorem dX6_search_38 : decode (am_code 30) 38 = .ok (.getfield 41, 3) := by decide +kernel
theorem dX6_search_41 : decode (am_code 30) 41 = .ok (.aload_n 0, 1) := by decide +kernel
theorem dX6_search_42 : decode (am_code 30) 42 = .ok (.getfield 18, 3) := by decide +kernel
theorem dX6_search_45 : decode (am_code 30) 45 = .ok (.aload_n 1, 1) := by decide +kernel
theorem dX6_search_46 : decode (am_code 30) 46 = .ok (.invokevirtual 46, 3) := by decide +kernel
theorem dX6_search_49 : decode (am_code 30) 49 = .ok (.aload_n 0, 1) := by decide +kernel
theorem dX6_search_50 : decode (am_code 30) 50 = .ok (.getfield 25, 3) := by decide +kernel
theorem dX6_search_53 : decode (am_code 30) 53 = .ok (.invokevirtual 52, 3) := by decide +kernel
theorem dX6_search_56 : decode (am_code 30) 56 = .ok (.aload_n 0, 1) := by decide +kernel
theorem dX6_search_57 : decode (am_code 30) 57 = .ok (.getfield 33, 3) := by decide +kernel
theorem dX6_search_60 : decode (am_code 30) 60 = .ok (.if_icmp .ge 18, 3) := by decide +kernel
theorem dX6_search_63 : decode (am_code 30) 63 = .ok (.aload_n 0, 1) := by decide +kernel
theorem dX6_search_64 : decode (am_code 30) 64 = .ok (.aload_n 0, 1) := by decide +kernel
theorem dX6_search_65 : decode (am_code 30) 65 = .ok (.getfield 25, 3) := by decide +kernel
theorem dX6_search_68 : decode (am_code 30) 68 = .ok (.invokevirtual 52, 3) := by decide +kernel
theorem dX6_search_71 : decode (am_code 30) 71 = .ok (.putfield 33, 3) := by decide +kernel
theorem dX6_search_74 : decode (am_code 30) 74 = .ok (.aload_n 0, 1) := by decide +kernel
theorem dX6_search_75 : decode (am_code 30) 75 = .ok (.invokevirtual 55, 3) := by decide +kernel
theorem dX6_search_78 : decode (am_code 30) 78 = .ok (.iinc 3 1, 3) := by decide +kernel
theorem dX6_search_81 : decode (am_code 30) 81 = .ok (.goto (-68), 3) := by decide +kernel
theorem dX6_search_84 : decode (am_code 30) 84 = .ok (.return_, 1) := by decide +kernel
theorem r30_0 (d : Nat) (st : List Value) (σ : am_St) (τ : Int64) (x : Nat) (v1 v2 v3 : Value) : am_run d 30 0 [.ref x, v1, v2, v3] st σ τ = am_run d 30 1 [.ref x, v1, v2, v3] (.ref x :: st) σ τ := rr_aload_n dX6_search_0 rfl
theorem r30_1 (d : Nat) (ls st : List Value) (σ : am_St) (τ : Int64) (k : Nat)  (hk : am_kc k = 6) (hc : am_cats st ≤ 8) : am_run (d + 1) 30 1 ls (.ref k :: st) σ τ = (am_call d 32 [.ref k] σ τ).bind (fun r => am_run (d + 1) 30 4 ls (r.1.toList ++ st) r.2.1 r.2.2) := rr_invv [] dX6_search_1 (by decide +kernel) (by decide) rfl (Nat.le_of_ble_eq_true rfl) hk hc
theorem r30_4 (d : Nat) (st : List Value) (σ : am_St) (τ : Int64) (x : Int32) (v0 v1 v2 v3 : Value) : am_run d 30 4 [v0, v1, v2, v3] (.int x :: st) σ τ = am_run d 30 5 [v0, am_nl v1, .int x, v3] st σ τ := rr_istore_n _ dX6_search_4 (by decide) (by first | rfl | (by_cases h : v1.category = 2 <;> simp [am_set1, am_nl, h]))
theorem r30_5 (d : Nat) (st : List Value) (σ : am_St) (τ : Int64) (x : Nat) (v1 v2 v3 : Value) : am_run d 30 5 [.ref x, v1, v2, v3] st σ τ = am_run d 30 6 [.ref x, v1, v2, v3] (.ref x :: st) σ τ := rr_aload_n dX6_search_5 rfl
theorem r30_6 (d : Nat) (ls st : List Value) (σ : am_St) (τ : Int64) : am_run d 30 6 ls st σ τ = am_run d 30 8 ls (.int 13 :: st) σ τ := rr_bipush 13 dX6_search_6 (by decide)
theorem r30_8 (d : Nat) (ls st : List Value) (σ : am_St) (τ : Int64) (k : Nat) (x : Int32) : am_run d 30 8 ls (.int x :: .ref k :: st) σ τ = am_pf k 6 0 x σ (fun σ => am_run d 30 11 ls st σ τ) := rr_putf dX6_search_8 (by decide +kernel)
theorem r30_11 (d : Nat) (ls st : List Value) (σ : am_St) (τ : Int64) : am_run d 30 11 ls st σ τ = am_run d 30 12 ls (.int 0 :: st) σ τ := rr_iconst 0 dX6_search_11 (by decide)
theorem r30_12 (d : Nat) (st : List Value) (σ : am_St) (τ : Int64) (x : Int32) (v0 v1 v2 v3 : Value) : am_run d 30 12 [v0, v1, v2, v3] (.int x :: st) σ τ = am_run d 30 13 [v0, v1, am_nl v2, .int x] st σ τ := rr_istore_n _ dX6_search_12 (by decide) (by first | rfl | (by_cases h : v2.category = 2 <;> simp [am_set1, am_nl, h]))
theorem r30_13 (d : Nat) (st : List Value) (σ : am_St) (τ : Int64) (x : Int32) (v0 v1 v2 : Value) : am_run d 30 13 [v0, v1, v2, .int x] st σ τ = am_run d 30 14 [v0, v1, v2, .int x] (.int x :: st) σ τ := rr_iload_n dX6_search_13 rfl
theorem r30_14 (d : Nat) (st : List Value) (σ : am_St) (τ : Int64) (x : Int32) (v0 v1 v3 : Value) : am_run d 30 14 [v0, v1, .int x, v3] st σ τ = am_run d 30 15 [v0, v1, .int x, v3] (.int x :: st) σ τ := rr_iload_n dX6_search_14 rfl
theorem r30_15 (d : Nat) (ls st : List Value) (σ : am_St) (τ : Int64) (x y : Int32) : am_run d 30 15 ls (.int y :: .int x :: st) σ τ = if y ≤ x then am_run d 30 84 ls st σ τ else am_run d 30 18 ls st σ τ := (rr_icmp 84 dX6_search_15 (by decide)).trans am_sel
theorem r30_18 (d : Nat) (st : List Value) (σ : am_St) (τ : Int64) (x : Nat) (v1 v2 v3 : Value) : am_run d 30 18 [.ref x, v1, v2, v3] st σ τ = am_run d 30 19 [.ref x, v1, v2, v3] (.ref x :: st) σ τ := rr_aload_n dX6_search_18 rfl
theorem r30_19 (d : Nat) (ls st : List Value) (σ : am_St) (τ : Int64) (k : Nat) : am_run d 30 19 ls (.ref k :: st) σ τ = am_gf k 6 0 σ τ (fun v => am_run d 30 22 ls (v :: st) σ τ) := rr_getf dX6_search_19 (by decide +kernel)
theorem r30_22 (d : Nat) (ls st : List Value) (σ : am_St) (τ : Int64) (x : Int32) : am_run d 30 22 ls (.int x :: st) σ τ = if x ≤ 0 then am_run d 30 84 ls st σ τ else am_run d 30 25 ls st σ τ := (rr_if 84 dX6_search_22 (by decide)).trans am_sel
theorem r30_25 (d : Nat) (st : List Value) (σ : am_St) (τ : Int64) (x : Nat) (v1 v2 v3 : Value) : am_run d 30 25 [.ref x, v1, v2, v3] st σ τ = am_run d 30 26 [.ref x, v1, v2, v3] (.ref x :: st) σ τ := rr_aload_n dX6_search_25 rfl
theorem r30_26 (d : Nat) (st : List Value) (σ : am_St) (τ : Int64) (x : Int32) (v0 v1 v2 : Value) : am_run d 30 26 [v0, v1, v2, .int x] st σ τ = am_run d 30 27 [v0, v1, v2, .int x] (.int x :: st) σ τ := rr_iload_n dX6_search_26 rfl
theorem r30_27 (d : Nat) (ls st : List Value) (σ : am_St) (τ : Int64) (k : Nat) (a0 : Int32) (hk : am_kc k = 6) (hc : am_cats st ≤ 8) : am_run (d + 1) 30 27 ls (.int a0 :: .ref k :: st) σ τ = (am_call d 33 [.ref k, .int a0] σ τ).bind (fun r => am_run (d + 1) 30 30 ls (r.1.toList ++ st) r.2.1 r.2.2) := rr_invv [.int a0] dX6_search_27 (by decide +kernel) (by decide) rfl (Nat.le_of_ble_eq_true rfl) hk hc
theorem r30_30 (d : Nat) (st : List Value) (σ : am_St) (τ : Int64) (x : Nat) (v1 v2 v3 : Value) : am_run d 30 30 [.ref x, v1, v2, v3] st σ τ = am_run d 30 31 [.ref x, v1, v2, v3] (.ref x :: st) σ τ := rr_aload_n dX6_search_30 rfl
theorem r30_31 (d : Nat) (ls st : List Value) (σ : am_St) (τ : Int64) (k : Nat) : am_run d 30 31 ls (.ref k :: st) σ τ = am_gf k 6 6 σ τ (fun v => am_run d 30 34 ls (v :: st) σ τ) := rr_getf dX6_search_31 (by decide +kernel)
theorem r30_34 (d : Nat) (st : List Value) (σ : am_St) (τ : Int64) (x : Nat) (v1 v2 v3 : Value) : am_run d 30 34 [.ref x, v1, v2, v3] st σ τ = am_run d 30 35 [.ref x, v1, v2, v3] (.ref x :: st) σ τ := rr_aload_n dX6_search_34 rfl
theorem r30_35 (d : Nat) (ls st : List Value) (σ : am_St) (τ : Int64) (k : Nat) : am_run d 30 35 ls (.ref k :: st) σ τ = am_gf k 6 5 σ τ (fun v => am_run d 30 38 ls (v :: st) σ τ) := rr_getf dX6_search_35 (by decide +kernel)
theorem r30_38 (d : Nat) (ls st : List Value) (σ : am_St) (τ : Int64) (k : Nat) : am_run d 30 38 ls (.ref k :: st) σ τ = am_gf k 1 3 σ τ (fun v => am_run d 30 41 ls (v :: st) σ τ) := rr_getf dX6_search_38 (by decide +kernel)
theorem r30_41 (d : Nat) (st : List Value) (σ : am_St) (τ : Int64) (x : Nat) (v1 v2 v3 : Value) : am_run d 30 41 [.ref x, v1, v2, v3] st σ τ = am_run d 30 42 [.ref x, v1, v2, v3] (.ref x :: st) σ τ := rr_aload_n dX6_search_41 rfl
theorem r30_42 (d : Nat) (ls st : List Value) (σ : am_St) (τ : Int64) (k : Nat) : am_run d 30 42 ls (.ref k :: st) σ τ = am_gf k 6 4 σ τ (fun v => am_run d 30 45 ls (v :: st) σ τ) := rr_getf dX6_search_42 (by decide +kernel)
theorem r30_45 (d : Nat) (st : List Value) (σ : am_St) (τ : Int64) (x : Nat) (v0 v2 v3 : Value) : am_run d 30 45 [v0, .ref x, v2, v3] st σ τ = am_run d 30 46 [v0, .ref x, v2, v3] (.ref x :: st) σ τ := rr_aload_n dX6_search_45 rfl
theorem r30_46 (d : Nat) (ls st : List Value) (σ : am_St) (τ : Int64) (k : Nat) (a0 : Nat) (a1 : Nat) (a2 : Nat) (hk : am_kc k = 7) (hc : am_cats st ≤ 8) : am_run (d + 1) 30 46 ls (.ref a2 :: .ref a1 :: .ref a0 :: .ref k :: st) σ τ = (am_call d 35 [.ref k, .ref a0, .ref a1, .ref a2] σ τ).bind (fun r => am_run (d + 1) 30 49 ls (r.1.toList ++ st) r.2.1 r.2.2) := rr_invv [.ref a0, .ref a1, .ref a2] dX6_search_46 (by decide +kernel) (by decide) rfl (Nat.le_of_ble_eq_true rfl) hk hc
theorem r30_49 (d : Nat) (st : List Value) (σ : am_St) (τ : Int64) (x : Nat) (v1 v2 v3 : Value) : am_run d 30 49 [.ref x, v1, v2, v3] st σ τ = am_run d 30 50 [.ref x, v1, v2, v3] (.ref x :: st) σ τ := rr_aload_n dX6_search_49 rfl
theorem r30_50 (d : Nat) (ls st : List Value) (σ : am_St) (τ : Int64) (k : Nat) : am_run d 30 50 ls (.ref k :: st) σ τ = am_gf k 6 6 σ τ (fun v => am_run d 30 53 ls (v :: st) σ τ) := rr_getf dX6_search_50 (by decide +kernel)
theorem r30_53 (d : Nat) (ls st : List Value) (σ : am_St) (τ : Int64) (k : Nat)  (hk : am_kc k = 7) (hc : am_cats st ≤ 8) : am_run (d + 1) 30 53 ls (.ref k :: st) σ τ = (am_call d 42 [.ref k] σ τ).bind (fun r => am_run (d + 1) 30 56 ls (r.1.toList ++ st) r.2.1 r.2.2) := rr_invv [] dX6_search_53 (by decide +kernel) (by decide) rfl (Nat.le_of_ble_eq_true rfl) hk hc
theorem r30_56 (d : Nat) (st : List Value) (σ : am_St) (τ : Int64) (x : Nat) (v1 v2 v3 : Value) : am_run d 30 56 [.ref x, v1, v2, v3] st σ τ = am_run d 30 57 [.ref x, v1, v2, v3] (.ref x :: st) σ τ := rr_aload_n dX6_search_56 rfl
theorem r30_57 (d : Nat) (ls st : List Value) (σ : am_St) (τ : Int64) (k : Nat) : am_run d 30 57 ls (.ref k :: st) σ τ = am_gf k 6 0 σ τ (fun v => am_run d 30 60 ls (v :: st) σ τ) := rr_getf dX6_search_57 (by decide +kernel)
theorem r30_60 (d : Nat) (ls st : List Value) (σ : am_St) (τ : Int64) (x y : Int32) : am_run d 30 60 ls (.int y :: .int x :: st) σ τ = if y ≤ x then am_run d 30 78 ls st σ τ else am_run d 30 63 ls st σ τ := (rr_icmp 78 dX6_search_60 (by decide)).trans am_sel
theorem r30_63 (d : Nat) (st : List Value) (σ : am_St) (τ : Int64) (x : Nat) (v1 v2 v3 : Value) : am_run d 30 63 [.ref x, v1, v2, v3] st σ τ = am_run d 30 64 [.ref x, v1, v2, v3] (.ref x :: st) σ τ := rr_aload_n dX6_search_63 rfl
theorem r30_64 (d : Nat) (st : List Value) (σ : am_St) (τ : Int64) (x : Nat) (v1 v2 v3 : Value) : am_run d 30 64 [.ref x, v1, v2, v3] st σ τ = am_run d 30 65 [.ref x, v1, v2, v3] (.ref x :: st) σ τ := rr_aload_n dX6_search_64 rfl
theorem r30_65 (d : Nat) (ls st : List Value) (σ : am_St) (τ : Int64) (k : Nat) : am_run d 30 65 ls (.ref k :: st) σ τ = am_gf k 6 6 σ τ (fun v => am_run d 30 68 ls (v :: st) σ τ) := rr_getf dX6_search_65 (by decide +kernel)
theorem r30_68 (d : Nat) (ls st : List Value) (σ : am_St) (τ : Int64) (k : Nat)  (hk : am_kc k = 7) (hc : am_cats st ≤ 8) : am_run (d + 1) 30 68 ls (.ref k :: st) σ τ = (am_call d 42 [.ref k] σ τ).bind (fun r => am_run (d + 1) 30 71 ls (r.1.toList ++ st) r.2.1 r.2.2) := rr_invv [] dX6_search_68 (by decide +kernel) (by decide) rfl (Nat.le_of_ble_eq_true rfl) hk hc
theorem r30_71 (d : Nat) (ls st : List Value) (σ : am_St) (τ : Int64) (k : Nat) (x : Int32) : am_run d 30 71 ls (.int x :: .ref k :: st) σ τ = am_pf k 6 0 x σ (fun σ => am_run d 30 74 ls st σ τ) := rr_putf dX6_search_71 (by decide +kernel)
theorem r30_74 (d : Nat) (st : List Value) (σ : am_St) (τ : Int64) (x : Nat) (v1 v2 v3 : Value) : am_run d 30 74 [.ref x, v1, v2, v3] st σ τ = am_run d 30 75 [.ref x, v1, v2, v3] (.ref x :: st) σ τ := rr_aload_n dX6_search_74 rfl
theorem r30_75 (d : Nat) (ls st : List Value) (σ : am_St) (τ : Int64) (k : Nat)  (hk : am_kc k = 6) (hc : am_cats st ≤ 8) : am_run (d + 1) 30 75 ls (.ref k :: st) σ τ = (am_call d 34 [.ref k] σ τ).bind (fun r => am_run (d + 1) 30 78 ls (r.1.toList ++ st) r.2.1 r.2.2) := rr_invv [] dX6_search_75 (by decide +kernel) (by decide) rfl (Nat.le_of_ble_eq_true rfl) hk hc
theorem r30_78 (d : Nat) (st : List Value) (σ : am_St) (τ : Int64) (x : Int32) (v0 v1 v2 : Value) : am_run d 30 78 [v0, v1, v2, .int x] st σ τ = am_run d 30 81 [v0, v1, am_nl v2, .int (x + 1)] st σ τ := rr_iinc 1 _ dX6_search_78 rfl (by decide) (by decide) (by first | rfl | (by_cases h : v2.category = 2 <;> simp [am_set1, am_nl, h]))
theorem r30_81 (d : Nat) (ls st : List Value) (σ : am_St) (τ : Int64) : am_run d 30 81 ls st σ τ = am_run d 30 13 ls st σ τ := rr_goto 13 dX6_search_81 (by decide)
theorem r30_84 (d : Nat) (ls : List Value) (σ : am_St) (τ : Int64) : am_run d 30 84 ls [] σ τ = some (none, σ, τ) := rr_vret dX6_search_84 rfl
theorem dX6_nameOfFounder_0 : decode (am_code 31) 0 = .ok (.iload_n 1, 1) := by decide +kernel
theorem dX6_nameOfFounder_1 : decode (am_code 31) 1 = .ok (.ifCond .lt 20, 3) := by decide +kernel
theorem dX6_nameOfFounder_4 : decode (am_code 31) 4 = .ok (.iload_n 1, 1) := by decide +kernel
theorem dX6_nameOfFounder_5 : decode (am_code 31) 5 = .ok (.aload_n 0, 1) := by decide +kernel
theorem dX6_nameOfFounder_6 : decode (am_code 31) 6 = .ok (.getfield 58, 3) := by decide +kernel
theorem dX6_nameOfFounder_9 : decode (am_code 31) 9 = .ok (.if_icmp .ge 12, 3) := by decide +kernel
theorem dX6_nameOfFounder_12 : decode (am_code 31) 12 = .ok (.aload_n 0, 1) := by decide +kernel
theorem dX6_nameOfFounder_13 : decode (am_code 31) 13 = .ok (.getfield 15, 3) := by decide +kernel
theorem dX6_nameOfFounder_16 : decode (am_code 31) 16 = .ok (.iload_n 1, 1) := by decide +kernel
theorem dX6_nameOfFounder_17 : decode (am_code 31) 17 = .ok (.iaload, 1) := by decide +kernel
theorem dX6_nameOfFounder_18 : decode (am_code 31) 18 = .ok (.goto 4, 3) := by decide +kernel
theorem dX6_nameOfFounder_21 : decode (am_code 31) 21 = .ok (.iconst (-1), 1) := by decide +kernel
theorem dX6_nameOfFounder_22 : decode (am_code 31) 22 = .ok (.ireturn, 1) := by decide +kernel
theorem r31_0 (d : Nat) (st : List Value) (σ : am_St) (τ : Int64) (x : Int32) (v0 : Value) : am_run d 31 0 [v0, .int x] st σ τ = am_run d 31 1 [v0, .int x] (.int x :: st) σ τ := rr_iload_n dX6_nameOfFounder_0 rfl
theorem r31_1 (d : Nat) (ls st : List Value) (σ : am_St) (τ : Int64) (x : Int32) : am_run d 31 1 ls (.int x :: st) σ τ = if x < 0 then am_run d 31 21 ls st σ τ else am_run d 31 4 ls st σ τ := (rr_if 21 dX6_nameOfFounder_1 (by decide)).trans am_sel
theorem r31_4 (d : Nat) (st : List Value) (σ : am_St) (τ : Int64) (x : Int32) (v0 : Value) : am_run d 31 4 [v0, .int x] st σ τ = am_run d 31 5 [v0, .int x] (.int x :: st) σ τ := rr_iload_n dX6_nameOfFounder_4 rfl
theorem r31_5 (d : Nat) (st : List Value) (σ : am_St) (τ : Int64) (x : Nat) (v1 : Value) : am_run d 31 5 [.ref x, v1] st σ τ = am_run d 31 6 [.ref x, v1] (.ref x :: st) σ τ := rr_aload_n dX6_nameOfFounder_5 rfl
theorem r31_6 (d : Nat) (ls st : List Value) (σ : am_St) (τ : Int64) (k : Nat) : am_run d 31 6 ls (.ref k :: st) σ τ = am_gf k 6 1 σ τ (fun v => am_run d 31 9 ls (v :: st) σ τ) := rr_getf dX6_nameOfFounder_6 (by decide +kernel)
theorem r31_9 (d : Nat) (ls st : List Value) (σ : am_St) (τ : Int64) (x y : Int32) : am_run d 31 9 ls (.int y :: .int x :: st) σ τ = if y ≤ x then am_run d 31 21 ls st σ τ else am_run d 31 12 ls st σ τ := (rr_icmp 21 dX6_nameOfFounder_9 (by decide)).trans am_sel
theorem r31_12 (d : Nat) (st : List Value) (σ : am_St) (τ : Int64) (x : Nat) (v1 : Value) : am_run d 31 12 [.ref x, v1] st σ τ = am_run d 31 13 [.ref x, v1] (.ref x :: st) σ τ := rr_aload_n dX6_nameOfFounder_12 rfl
theorem r31_13 (d : Nat) (ls st : List Value) (σ : am_St) (τ : Int64) (k : Nat) : am_run d 31 13 ls (.ref k :: st) σ τ = am_gf k 6 3 σ τ (fun v => am_run d 31 16 ls (v :: st) σ τ) := rr_getf dX6_nameOfFounder_13 (by decide +kernel)
theorem r31_16 (d : Nat) (st : List Value) (σ : am_St) (τ : Int64) (x : Int32) (v0 : Value) : am_run d 31 16 [v0, .int x] st σ τ = am_run d 31 17 [v0, .int x] (.int x :: st) σ τ := rr_iload_n dX6_nameOfFounder_16 rfl
theorem r31_17 (d : Nat) (ls st : List Value) (σ : am_St) (τ : Int64) (i : Int32) (k : Nat) : am_run d 31 17 ls (.int i :: .ref k :: st) σ τ = am_ai false k i (fun j => am_run d 31 18 ls (.int (σ k j) :: st) σ τ) := rr_iald dX6_nameOfFounder_17
theorem r31_18 (d : Nat) (ls st : List Value) (σ : am_St) (τ : Int64) : am_run d 31 18 ls st σ τ = am_run d 31 22 ls st σ τ := rr_goto 22 dX6_nameOfFounder_18 (by decide)
theorem r31_21 (d : Nat) (ls st : List Value) (σ : am_St) (τ : Int64) : am_run d 31 21 ls st σ τ = am_run d 31 22 ls (.int (-1) :: st) σ τ := rr_iconst (-1) dX6_nameOfFounder_21 (by decide)
theorem r31_22 (d : Nat) (ls : List Value) (σ : am_St) (τ : Int64) (x : Int32) : am_run d 31 22 ls [.int x] σ τ = some (some (.int x), σ, τ) := rr_iret dX6_nameOfFounder_22 rfl
theorem dX6_findFounders_0 : decode (am_code 32) 0 = .ok (.aload_n 0, 1) := by decide +kernel
theorem dX6_findFounders_1 : decode (am_code 32) 1 = .ok (.iconst 0, 1) := by decide +kernel
theorem dX6_findFounders_2 : decode (am_code 32) 2 = .ok (.putfield 58, 3) := by decide +kernel
theorem dX6_findFounders_5 : decode (am_code 32) 5 = .ok (.iconst 1, 1) := by decide +kernel
theorem dX6_findFounders_6 : decode (am_code 32) 6 = .ok (.istore_n 1, 1) := by decide +kernel
theorem dX6_findFounders_7 : decode (am_code 32) 7 = .ok (.iconst 0, 1) := by decide +kernel
theorem dX6_findFounders_8 : decode (am_code 32) 8 = .ok (.istore_n 2, 1) := by decide +kernel
theorem dX6_findFounders_9 : decode (am_code 32) 9 = .ok (.iload_n 2, 1) := by decide +kernel
theorem dX6_findFounders_10 : decode (am_code 32) 10 = .ok (.aload_n 0, 1) := by decide +kernel
theorem dX6_findFounders_11 : decode (am_code 32) 11 = .ok (.getfield 21, 3) := by decide +kernel
theorem dX6_findFounders_14 : decode (am_code 32) 14 = .ok (.getfield 61, 3) := by decide +kernel
theorem dX6_findFounders_17 : decode (am_code 32) 17 = .ok (.if_icmp .ge 53, 3) := by decide +kernel
theorem dX6_findFounders_20 : decode (am_code 32) 20 = .ok (.aload_n 0, 1) := by decide +kernel
theorem dX6_findFounders_21 : decode (am_code 32) 21 = .ok (.getfield 21, 3) := by decide +kernel
theorem dX6_findFounders_24 : decode (am_code 32) 24 = .ok (.iload_n 2, 1) := by decide +kernel
theorem dX6_findFounders_25 : decode (am_code 32) 25 = .ok (.invokevirtual 64, 3) := by decide +kernel
theorem dX6_findFounders_28 : decode (am_code 32) 28 = .ok (.ifCond .eq 36, 3) := by decide +kernel
theorem dX6_findFounders_31 : decode (am_code 32) 31 = .ok (.aload_n 0, 1) := by decide +kernel
theorem dX6_findFounders_32 : decode (am_code 32) 32 = .ok (.getfield 58, 3) := by decide +kernel
theorem dX6_findFounders_35 : decode (am_code 32) 35 = .ok (.iconst 4, 1) := by decide +kernel
theorem dX6_findFounders_36 : decode (am_code 32) 36 = .ok (.if_icmp .ge 28, 3) := by decide +kernel
theorem dX6_findFounders_39 : decode (am_code 32) 39 = .ok (.aload_n 0, 1) := by decide +kernel
theorem dX6_findFounders_40 : decode (am_code 32) 40 = .ok (.getfield 9, 3) := by decide +kernel
theorem dX6_findFounders_43 : decode (am_code 32) 43 = .ok (.aload_n 0, 1) := by decide +kernel
theorem dX6_findFounders_44 : decode (am_code 32) 44 = .ok (.getfield 58, 3) := by decide +kernel
theorem dX6_findFounders_47 : decode (am_code 32) 47 = .ok (.iload_n 2, 1) := by decide +kernel
theorem dX6_findFounders_48 : decode (am_code 32) 48 = .ok (.iastore, 1) := by decide +kernel
theorem dX6_findFounders_49 : decode (am_code 32) 49 = .ok (.aload_n 0, 1) := by decide +kernel
theorem dX6_findFounders_50 : decode (am_code 32) 50 = .ok (.dup, 1) := by decide +kernel
theorem dX6_findFounders_51 : decode (am_code 32) 51 = .ok (.getfield 58, 3) := by decide +kernel
theorem dX6_findFounders_54 : decode (am_code 32) 54 = .ok (.iconst 1, 1) := by decide +kernel
theorem dX6_findFounders_55 : decode (am_code 32) 55 = .ok (.iadd, 1) := by decide +kernel
theorem dX6_findFounders_56 : decode (am_code 32) 56 = .ok (.putfield 58, 3) := by decide +kernel
theorem dX6_findFounders_59 : decode (am_code 32) 59 = .ok (.iload_n 1, 1) := by decide +kernel
theorem dX6_findFounders_60 : decode (am_code 32) 60 = .ok (.bipush 6, 2) := by decide +kernel
theorem dX6_findFounders_62 : decode (am_code 32) 62 = .ok (.imul, 1) := by decide +kernel
theorem dX6_findFounders_63 : decode (am_code 32) 63 = .ok (.istore_n 1, 1) := by decide +kernel
theorem dX6_findFounders_64 : decode (am_code 32) 64 = .ok (.iinc 2 1, 3) := by decide +kernel
theorem dX6_findFounders_67 : decode (am_code 32) 67 = .ok (.goto (-58), 3) := by decide +kernel
theorem dX6_findFounders_70 : decode (am_code 32) 70 = .ok (.iload_n 1, 1) := by decide +kernel
theorem dX6_findFounders_71 : decode (am_code 32) 71 = .ok (.ireturn, 1) := by decide +kernel
theorem r32_0 (d : Nat) (st : List Value) (σ : am_St) (τ : Int64) (x : Nat) (v1 v2 : Value) : am_run d 32 0 [.ref x, v1, v2] st σ τ = am_run d 32 1 [.ref x, v1, v2] (.ref x :: st) σ τ := rr_aload_n dX6_findFounders_0 rfl
theorem r32_1 (d : Nat) (ls st : List Value) (σ : am_St) (τ : Int64) : am_run d 32 1 ls st σ τ = am_run d 32 2 ls (.int 0 :: st) σ τ := rr_iconst 0 dX6_findFounders_1 (by decide)
theorem r32_2 (d : Nat) (ls st : List Value) (σ : am_St) (τ : Int64) (k : Nat) (x : Int32) : am_run d 32 2 ls (.int x :: .ref k :: st) σ τ = am_pf k 6 1 x σ (fun σ => am_run d 32 5 ls st σ τ) := rr_putf dX6_findFounders_2 (by decide +kernel)
theorem r32_5 (d : Nat) (ls st : List Value) (σ : am_St) (τ : Int64) : am_run d 32 5 ls st σ τ = am_run d 32 6 ls (.int 1 :: st) σ τ := rr_iconst 1 dX6_findFounders_5 (by decide)
theorem r32_6 (d : Nat) (st : List Value) (σ : am_St) (τ : Int64) (x : Int32) (v0 v1 v2 : Value) : am_run d 32 6 [v0, v1, v2] (.int x :: st) σ τ = am_run d 32 7 [am_nl v0, .int x, v2] st σ τ := rr_istore_n _ dX6_findFounders_6 (by decide) (by first | rfl | (by_cases h : v0.category = 2 <;> simp [am_set1, am_nl, h]))
theorem r32_7 (d : Nat) (ls st : List Value) (σ : am_St) (τ : Int64) : am_run d 32 7 ls st σ τ = am_run d 32 8 ls (.int 0 :: st) σ τ := rr_iconst 0 dX6_findFounders_7 (by decide)
theorem r32_8 (d : Nat) (st : List Value) (σ : am_St) (τ : Int64) (x : Int32) (v0 v1 v2 : Value) : am_run d 32 8 [v0, v1, v2] (.int x :: st) σ τ = am_run d 32 9 [v0, am_nl v1, .int x] st σ τ := rr_istore_n _ dX6_findFounders_8 (by decide) (by first | rfl | (by_cases h : v1.category = 2 <;> simp [am_set1, am_nl, h]))
theorem r32_9 (d : Nat) (st : List Value) (σ : am_St) (τ : Int64) (x : Int32) (v0 v1 : Value) : am_run d 32 9 [v0, v1, .int x] st σ τ = am_run d 32 10 [v0, v1, .int x] (.int x :: st) σ τ := rr_iload_n dX6_findFounders_9 rfl
theorem r32_10 (d : Nat) (st : List Value) (σ : am_St) (τ : Int64) (x : Nat) (v1 v2 : Value) : am_run d 32 10 [.ref x, v1, v2] st σ τ = am_run d 32 11 [.ref x, v1, v2] (.ref x :: st) σ τ := rr_aload_n dX6_findFounders_10 rfl
theorem r32_11 (d : Nat) (ls st : List Value) (σ : am_St) (τ : Int64) (k : Nat) : am_run d 32 11 ls (.ref k :: st) σ τ = am_gf k 6 5 σ τ (fun v => am_run d 32 14 ls (v :: st) σ τ) := rr_getf dX6_findFounders_11 (by decide +kernel)
theorem r32_14 (d : Nat) (ls st : List Value) (σ : am_St) (τ : Int64) (k : Nat) : am_run d 32 14 ls (.ref k :: st) σ τ = am_gf k 1 0 σ τ (fun v => am_run d 32 17 ls (v :: st) σ τ) := rr_getf dX6_findFounders_14 (by decide +kernel)
theorem r32_17 (d : Nat) (ls st : List Value) (σ : am_St) (τ : Int64) (x y : Int32) : am_run d 32 17 ls (.int y :: .int x :: st) σ τ = if y ≤ x then am_run d 32 70 ls st σ τ else am_run d 32 20 ls st σ τ := (rr_icmp 70 dX6_findFounders_17 (by decide)).trans am_sel
theorem r32_20 (d : Nat) (st : List Value) (σ : am_St) (τ : Int64) (x : Nat) (v1 v2 : Value) : am_run d 32 20 [.ref x, v1, v2] st σ τ = am_run d 32 21 [.ref x, v1, v2] (.ref x :: st) σ τ := rr_aload_n dX6_findFounders_20 rfl
theorem r32_21 (d : Nat) (ls st : List Value) (σ : am_St) (τ : Int64) (k : Nat) : am_run d 32 21 ls (.ref k :: st) σ τ = am_gf k 6 5 σ τ (fun v => am_run d 32 24 ls (v :: st) σ τ) := rr_getf dX6_findFounders_21 (by decide +kernel)
theorem r32_24 (d : Nat) (st : List Value) (σ : am_St) (τ : Int64) (x : Int32) (v0 v1 : Value) : am_run d 32 24 [v0, v1, .int x] st σ τ = am_run d 32 25 [v0, v1, .int x] (.int x :: st) σ τ := rr_iload_n dX6_findFounders_24 rfl
theorem r32_25 (d : Nat) (ls st : List Value) (σ : am_St) (τ : Int64) (k : Nat) (a0 : Int32) (hk : am_kc k = 1) (hc : am_cats st ≤ 8) : am_run (d + 1) 32 25 ls (.int a0 :: .ref k :: st) σ τ = (am_call d 8 [.ref k, .int a0] σ τ).bind (fun r => am_run (d + 1) 32 28 ls (r.1.toList ++ st) r.2.1 r.2.2) := rr_invv [.int a0] dX6_findFounders_25 (by decide +kernel) (by decide) rfl (Nat.le_of_ble_eq_true rfl) hk hc
theorem r32_28 (d : Nat) (ls st : List Value) (σ : am_St) (τ : Int64) (x : Int32) : am_run d 32 28 ls (.int x :: st) σ τ = if x = 0 then am_run d 32 64 ls st σ τ else am_run d 32 31 ls st σ τ := (rr_if 64 dX6_findFounders_28 (by decide)).trans am_sel
theorem r32_31 (d : Nat) (st : List Value) (σ : am_St) (τ : Int64) (x : Nat) (v1 v2 : Value) : am_run d 32 31 [.ref x, v1, v2] st σ τ = am_run d 32 32 [.ref x, v1, v2] (.ref x :: st) σ τ := rr_aload_n dX6_findFounders_31 rfl
theorem r32_32 (d : Nat) (ls st : List Value) (σ : am_St) (τ : Int64) (k : Nat) : am_run d 32 32 ls (.ref k :: st) σ τ = am_gf k 6 1 σ τ (fun v => am_run d 32 35 ls (v :: st) σ τ) := rr_getf dX6_findFounders_32 (by decide +kernel)
theorem r32_35 (d : Nat) (ls st : List Value) (σ : am_St) (τ : Int64) : am_run d 32 35 ls st σ τ = am_run d 32 36 ls (.int 4 :: st) σ τ := rr_iconst 4 dX6_findFounders_35 (by decide)
theorem r32_36 (d : Nat) (ls st : List Value) (σ : am_St) (τ : Int64) (x y : Int32) : am_run d 32 36 ls (.int y :: .int x :: st) σ τ = if y ≤ x then am_run d 32 64 ls st σ τ else am_run d 32 39 ls st σ τ := (rr_icmp 64 dX6_findFounders_36 (by decide)).trans am_sel
theorem r32_39 (d : Nat) (st : List Value) (σ : am_St) (τ : Int64) (x : Nat) (v1 v2 : Value) : am_run d 32 39 [.ref x, v1, v2] st σ τ = am_run d 32 40 [.ref x, v1, v2] (.ref x :: st) σ τ := rr_aload_n dX6_findFounders_39 rfl
theorem r32_40 (d : Nat) (ls st : List Value) (σ : am_St) (τ : Int64) (k : Nat) : am_run d 32 40 ls (.ref k :: st) σ τ = am_gf k 6 2 σ τ (fun v => am_run d 32 43 ls (v :: st) σ τ) := rr_getf dX6_findFounders_40 (by decide +kernel)
theorem r32_43 (d : Nat) (st : List Value) (σ : am_St) (τ : Int64) (x : Nat) (v1 v2 : Value) : am_run d 32 43 [.ref x, v1, v2] st σ τ = am_run d 32 44 [.ref x, v1, v2] (.ref x :: st) σ τ := rr_aload_n dX6_findFounders_43 rfl
theorem r32_44 (d : Nat) (ls st : List Value) (σ : am_St) (τ : Int64) (k : Nat) : am_run d 32 44 ls (.ref k :: st) σ τ = am_gf k 6 1 σ τ (fun v => am_run d 32 47 ls (v :: st) σ τ) := rr_getf dX6_findFounders_44 (by decide +kernel)
theorem r32_47 (d : Nat) (st : List Value) (σ : am_St) (τ : Int64) (x : Int32) (v0 v1 : Value) : am_run d 32 47 [v0, v1, .int x] st σ τ = am_run d 32 48 [v0, v1, .int x] (.int x :: st) σ τ := rr_iload_n dX6_findFounders_47 rfl
theorem r32_48 (d : Nat) (ls st : List Value) (σ : am_St) (τ : Int64) (x i : Int32) (k : Nat) : am_run d 32 48 ls (.int x :: .int i :: .ref k :: st) σ τ = am_ai false k i (fun j => am_run d 32 49 ls st (am_up σ k j x) τ) := rr_iast dX6_findFounders_48
theorem r32_49 (d : Nat) (st : List Value) (σ : am_St) (τ : Int64) (x : Nat) (v1 v2 : Value) : am_run d 32 49 [.ref x, v1, v2] st σ τ = am_run d 32 50 [.ref x, v1, v2] (.ref x :: st) σ τ := rr_aload_n dX6_findFounders_49 rfl
theorem r32_50 (d : Nat) (ls st : List Value) (σ : am_St) (τ : Int64) (x : Nat) : am_run d 32 50 ls (.ref x :: st) σ τ = am_run d 32 51 ls (.ref x :: .ref x :: st) σ τ := rr_dup_r dX6_findFounders_50
theorem r32_50i (d : Nat) (ls st : List Value) (σ : am_St) (τ : Int64) (x : Int32) : am_run d 32 50 ls (.int x :: st) σ τ = am_run d 32 51 ls (.int x :: .int x :: st) σ τ := rr_dup_i dX6_findFounders_50
theorem r32_51 (d : Nat) (ls st : List Value) (σ : am_St) (τ : Int64) (k : Nat) : am_run d 32 51 ls (.ref k :: st) σ τ = am_gf k 6 1 σ τ (fun v => am_run d 32 54 ls (v :: st) σ τ) := rr_getf dX6_findFounders_51 (by decide +kernel)
theorem r32_54 (d : Nat) (ls st : List Value) (σ : am_St) (τ : Int64) : am_run d 32 54 ls st σ τ = am_run d 32 55 ls (.int 1 :: st) σ τ := rr_iconst 1 dX6_findFounders_54 (by decide)
theorem r32_55 (d : Nat) (ls st : List Value) (σ : am_St) (τ : Int64) (x y : Int32) : am_run d 32 55 ls (.int y :: .int x :: st) σ τ = am_run d 32 56 ls (.int (x + y) :: st) σ τ := rr_iadd dX6_findFounders_55
theorem r32_56 (d : Nat) (ls st : List Value) (σ : am_St) (τ : Int64) (k : Nat) (x : Int32) : am_run d 32 56 ls (.int x :: .ref k :: st) σ τ = am_pf k 6 1 x σ (fun σ => am_run d 32 59 ls st σ τ) := rr_putf dX6_findFounders_56 (by decide +kernel)
theorem r32_59 (d : Nat) (st : List Value) (σ : am_St) (τ : Int64) (x : Int32) (v0 v2 : Value) : am_run d 32 59 [v0, .int x, v2] st σ τ = am_run d 32 60 [v0, .int x, v2] (.int x :: st) σ τ := rr_iload_n dX6_findFounders_59 rfl
theorem r32_60 (d : Nat) (ls st : List Value) (σ : am_St) (τ : Int64) : am_run d 32 60 ls st σ τ = am_run d 32 62 ls (.int 6 :: st) σ τ := rr_bipush 6 dX6_findFounders_60 (by decide)
theorem r32_62 (d : Nat) (ls st : List Value) (σ : am_St) (τ : Int64) (x y : Int32) : am_run d 32 62 ls (.int y :: .int x :: st) σ τ = am_run d 32 63 ls (.int (x * y) :: st) σ τ := rr_imul dX6_findFounders_62
theorem r32_63 (d : Nat) (st : List Value) (σ : am_St) (τ : Int64) (x : Int32) (v0 v1 v2 : Value) : am_run d 32 63 [v0, v1, v2] (.int x :: st) σ τ = am_run d 32 64 [am_nl v0, .int x, v2] st σ τ := rr_istore_n _ dX6_findFounders_63 (by decide) (by first | rfl | (by_cases h : v0.category = 2 <;> simp [am_set1, am_nl, h]))
theorem r32_64 (d : Nat) (st : List Value) (σ : am_St) (τ : Int64) (x : Int32) (v0 v1 : Value) : am_run d 32 64 [v0, v1, .int x] st σ τ = am_run d 32 67 [v0, am_nl v1, .int (x + 1)] st σ τ := rr_iinc 1 _ dX6_findFounders_64 rfl (by decide) (by decide) (by first | rfl | (by_cases h : v1.category = 2 <;> simp [am_set1, am_nl, h]))
theorem r32_67 (d : Nat) (ls st : List Value) (σ : am_St) (τ : Int64) : am_run d 32 67 ls st σ τ = am_run d 32 9 ls st σ τ := rr_goto 9 dX6_findFounders_67 (by decide)
theorem r32_70 (d : Nat) (st : List Value) (σ : am_St) (τ : Int64) (x : Int32) (v0 v2 : Value) : am_run d 32 70 [v0, .int x, v2] st σ τ = am_run d 32 71 [v0, .int x, v2] (.int x :: st) σ τ := rr_iload_n dX6_findFounders_70 rfl
theorem r32_71 (d : Nat) (ls : List Value) (σ : am_St) (τ : Int64) (x : Int32) : am_run d 32 71 ls [.int x] σ τ = some (some (.int x), σ, τ) := rr_iret dX6_findFounders_71 rfl
theorem dX6_callFounders_0 : decode (am_code 33) 0 = .ok (.iload_n 1, 1) := by decide +kernel
theorem dX6_callFounders_1 : decode (am_code 33) 1 = .ok (.istore_n 2, 1) := by decide +kernel
theorem dX6_callFounders_2 : decode (am_code 33) 2 = .ok (.aload_n 0, 1) := by decide +kernel
theorem dX6_callFounders_3 : decode (am_code 33) 3 = .ok (.getfield 58, 3) := by decide +kernel
theorem dX6_callFounders_6 : decode (am_code 33) 6 = .ok (.iconst 1, 1) := by decide +kernel
theorem dX6_callFounders_7 : decode (am_code 33) 7 = .ok (.isub, 1) := by decide +kernel
theorem dX6_callFounders_8 : decode (am_code 33) 8 = .ok (.istore_n 3, 1) := by decide +kernel
theorem dX6_callFounders_9 : decode (am_code 33) 9 = .ok (.iload_n 3, 1) := by decide +kernel
theorem dX6_callFounders_10 : decode (am_code 33) 10 = .ok (.ifCond .lt 29, 3) := by decide +kernel
theorem dX6_callFounders_13 : decode (am_code 33) 13 = .ok (.aload_n 0, 1) := by decide +kernel
theorem dX6_callFounders_14 : decode (am_code 33) 14 = .ok (.getfield 18, 3) := by decide +kernel
theorem dX6_callFounders_17 : decode (am_code 33) 17 = .ok (.aload_n 0, 1) := by decide +kernel
theorem dX6_callFounders_18 : decode (am_code 33) 18 = .ok (.getfield 9, 3) := by decide +kernel
theorem dX6_callFounders_21 : decode (am_code 33) 21 = .ok (.iload_n 3, 1) := by decide +kernel
theorem dX6_callFounders_22 : decode (am_code 33) 22 = .ok (.iaload, 1) := by decide +kernel
theorem dX6_callFounders_23 : decode (am_code 33) 23 = .ok (.iload_n 2, 1) := by decide +kernel
theorem dX6_callFounders_24 : decode (am_code 33) 24 = .ok (.bipush 6, 2) := by decide +kernel
theorem dX6_callFounders_26 : decode (am_code 33) 26 = .ok (.irem, 1) := by decide +kernel
theorem dX6_callFounders_27 : decode (am_code 33) 27 = .ok (.iastore, 1) := by decide +kernel
theorem dX6_callFounders_28 : decode (am_code 33) 28 = .ok (.iload_n 2, 1) := by decide +kernel
theorem dX6_callFounders_29 : decode (am_code 33) 29 = .ok (.bipush 6, 2) := by decide +kernel
theorem dX6_callFounders_31 : decode (am_code 33) 31 = .ok (.idiv, 1) := by decide +kernel
theorem dX6_callFounders_32 : decode (am_code 33) 32 = .ok (.istore_n 2, 1) := by decide +kernel
theorem dX6_callFounders_33 : decode (am_code 33) 33 = .ok (.iinc 3 (-1), 3) := by decide +kernel
theorem dX6_callFounders_36 : decode (am_code 33) 36 = .ok (.goto (-27), 3) := by decide +kernel
theorem dX6_callFounders_39 : decode (am_code 33) 39 = .ok (.return_, 1) := by decide +kernel
theorem r33_0 (d : Nat) (st : List Value) (σ : am_St) (τ : Int64) (x : Int32) (v0 v2 v3 : Value) : am_run d 33 0 [v0, .int x, v2, v3] st σ τ = am_run d 33 1 [v0, .int x, v2, v3] (.int x :: st) σ τ := rr_iload_n dX6_callFounders_0 rfl
theorem r33_1 (d : Nat) (st : List Value) (σ : am_St) (τ : Int64) (x : Int32) (v0 v1 v2 v3 : Value) : am_run d 33 1 [v0, v1, v2, v3] (.int x :: st) σ τ = am_run d 33 2 [v0, am_nl v1, .int x, v3] st σ τ := rr_istore_n _ dX6_callFounders_1 (by decide) (by first | rfl | (by_cases h : v1.category = 2 <;> simp [am_set1, am_nl, h]))
theorem r33_2 (d : Nat) (st : List Value) (σ : am_St) (τ : Int64) (x : Nat) (v1 v2 v3 : Value) : am_run d 33 2 [.ref x, v1, v2, v3] st σ τ = am_run d 33 3 [.ref x, v1, v2, v3] (.ref x :: st) σ τ := rr_aload_n dX6_callFounders_2 rfl
theorem r33_3 (d : Nat) (ls st : List Value) (σ : am_St) (τ : Int64) (k : Nat) : am_run d 33 3 ls (.ref k :: st) σ τ = am_gf k 6 1 σ τ (fun v => am_run d 33 6 ls (v :: st) σ τ) := rr_getf dX6_callFounders_3 (by decide +kernel)
theorem r33_6 (d : Nat) (ls st : List Value) (σ : am_St) (τ : Int64) : am_run d 33 6 ls st σ τ = am_run d 33 7 ls (.int 1 :: st) σ τ := rr_iconst 1 dX6_callFounders_6 (by decide)
theorem r33_7 (d : Nat) (ls st : List Value) (σ : am_St) (τ : Int64) (x y : Int32) : am_run d 33 7 ls (.int y :: .int x :: st) σ τ = am_run d 33 8 ls (.int (x - y) :: st) σ τ := rr_isub dX6_callFounders_7
theorem r33_8 (d : Nat) (st : List Value) (σ : am_St) (τ : Int64) (x : Int32) (v0 v1 v2 v3 : Value) : am_run d 33 8 [v0, v1, v2, v3] (.int x :: st) σ τ = am_run d 33 9 [v0, v1, am_nl v2, .int x] st σ τ := rr_istore_n _ dX6_callFounders_8 (by decide) (by first | rfl | (by_cases h : v2.category = 2 <;> simp [am_set1, am_nl, h]))
theorem r33_9 (d : Nat) (st : List Value) (σ : am_St) (τ : Int64) (x : Int32) (v0 v1 v2 : Value) : am_run d 33 9 [v0, v1, v2, .int x] st σ τ = am_run d 33 10 [v0, v1, v2, .int x] (.int x :: st) σ τ := rr_iload_n dX6_callFounders_9 rfl
theorem r33_10 (d : Nat) (ls st : List Value) (σ : am_St) (τ : Int64) (x : Int32) : am_run d 33 10 ls (.int x :: st) σ τ = if x < 0 then am_run d 33 39 ls st σ τ else am_run d 33 13 ls st σ τ := (rr_if 39 dX6_callFounders_10 (by decide)).trans am_sel
theorem r33_13 (d : Nat) (st : List Value) (σ : am_St) (τ : Int64) (x : Nat) (v1 v2 v3 : Value) : am_run d 33 13 [.ref x, v1, v2, v3] st σ τ = am_run d 33 14 [.ref x, v1, v2, v3] (.ref x :: st) σ τ := rr_aload_n dX6_callFounders_13 rfl
theorem r33_14 (d : Nat) (ls st : List Value) (σ : am_St) (τ : Int64) (k : Nat) : am_run d 33 14 ls (.ref k :: st) σ τ = am_gf k 6 4 σ τ (fun v => am_run d 33 17 ls (v :: st) σ τ) := rr_getf dX6_callFounders_14 (by decide +kernel)
theorem r33_17 (d : Nat) (st : List Value) (σ : am_St) (τ : Int64) (x : Nat) (v1 v2 v3 : Value) : am_run d 33 17 [.ref x, v1, v2, v3] st σ τ = am_run d 33 18 [.ref x, v1, v2, v3] (.ref x :: st) σ τ := rr_aload_n dX6_callFounders_17 rfl
theorem r33_18 (d : Nat) (ls st : List Value) (σ : am_St) (τ : Int64) (k : Nat) : am_run d 33 18 ls (.ref k :: st) σ τ = am_gf k 6 2 σ τ (fun v => am_run d 33 21 ls (v :: st) σ τ) := rr_getf dX6_callFounders_18 (by decide +kernel)
theorem r33_21 (d : Nat) (st : List Value) (σ : am_St) (τ : Int64) (x : Int32) (v0 v1 v2 : Value) : am_run d 33 21 [v0, v1, v2, .int x] st σ τ = am_run d 33 22 [v0, v1, v2, .int x] (.int x :: st) σ τ := rr_iload_n dX6_callFounders_21 rfl
theorem r33_22 (d : Nat) (ls st : List Value) (σ : am_St) (τ : Int64) (i : Int32) (k : Nat) : am_run d 33 22 ls (.int i :: .ref k :: st) σ τ = am_ai false k i (fun j => am_run d 33 23 ls (.int (σ k j) :: st) σ τ) := rr_iald dX6_callFounders_22
theorem r33_23 (d : Nat) (st : List Value) (σ : am_St) (τ : Int64) (x : Int32) (v0 v1 v3 : Value) : am_run d 33 23 [v0, v1, .int x, v3] st σ τ = am_run d 33 24 [v0, v1, .int x, v3] (.int x :: st) σ τ := rr_iload_n dX6_callFounders_23 rfl
theorem r33_24 (d : Nat) (ls st : List Value) (σ : am_St) (τ : Int64) : am_run d 33 24 ls st σ τ = am_run d 33 26 ls (.int 6 :: st) σ τ := rr_bipush 6 dX6_callFounders_24 (by decide)
theorem r33_26 (d : Nat) (ls st : List Value) (σ : am_St) (τ : Int64) (x y : Int32) : am_run d 33 26 ls (.int y :: .int x :: st) σ τ = if y = 0 then none else am_run d 33 27 ls (.int (x - x / y * y) :: st) σ τ := rr_irem dX6_callFounders_26
theorem r33_27 (d : Nat) (ls st : List Value) (σ : am_St) (τ : Int64) (x i : Int32) (k : Nat) : am_run d 33 27 ls (.int x :: .int i :: .ref k :: st) σ τ = am_ai false k i (fun j => am_run d 33 28 ls st (am_up σ k j x) τ) := rr_iast dX6_callFounders_27
theorem r33_28 (d : Nat) (st : List Value) (σ : am_St) (τ : Int64) (x : Int32) (v0 v1 v3 : Value) : am_run d 33 28 [v0, v1, .int x, v3] st σ τ = am_run d 33 29 [v0, v1, .int x, v3] (.int x :: st) σ τ := rr_iload_n dX6_callFounders_28 rfl
theorem r33_29 (d : Nat) (ls st : List Value) (σ : am_St) (τ : Int64) : am_run d 33 29 ls st σ τ = am_run d 33 31 ls (.int 6 :: st) σ τ := rr_bipush 6 dX6_callFounders_29 (by decide)
theorem r33_31 (d : Nat) (ls st : List Value) (σ : am_St) (τ : Int64) (x y : Int32) : am_run d 33 31 ls (.int y :: .int x :: st) σ τ = if y = 0 then none else am_run d 33 32 ls (.int (x / y) :: st) σ τ := rr_idiv dX6_callFounders_31
theorem r33_32 (d : Nat) (st : List Value) (σ : am_St) (τ : Int64) (x : Int32) (v0 v1 v2 v3 : Value) : am_run d 33 32 [v0, v1, v2, v3] (.int x :: st) σ τ = am_run d 33 33 [v0, am_nl v1, .int x, v3] st σ τ := rr_istore_n _ dX6_callFounders_32 (by decide) (by first | rfl | (by_cases h : v1.category = 2 <;> simp [am_set1, am_nl, h]))
theorem r33_33 (d : Nat) (st : List Value) (σ : am_St) (τ : Int64) (x : Int32) (v0 v1 v2 : Value) : am_run d 33 33 [v0, v1, v2, .int x] st σ τ = am_run d 33 36 [v0, v1, am_nl v2, .int (x + (-1))] st σ τ := rr_iinc (-1) _ dX6_callFounders_33 rfl (by decide) (by decide) (by first | rfl | (by_cases h : v2.category = 2 <;> simp [am_set1, am_nl, h]))
theorem r33_36 (d : Nat) (ls st : List Value) (σ : am_St) (τ : Int64) : am_run d 33 36 ls st σ τ = am_run d 33 9 ls st σ τ := rr_goto 9 dX6_callFounders_36 (by decide)
theorem r33_39 (d : Nat) (ls : List Value) (σ : am_St) (τ : Int64) : am_run d 33 39 ls [] σ τ = some (none, σ, τ) := rr_vret dX6_callFounders_39 rfl
theorem dX6_keepBest_0 : decode (am_code 34) 0 = .ok (.iconst 0, 1) := by decide +kernel
theorem dX6_keepBest_1 : decode (am_code 34) 1 = .ok (.istore_n 1, 1) := by decide +kernel
theorem dX6_keepBest_2 : decode (am_code 34) 2 = .ok (.iload_n 1, 1) := by decide +kernel
theorem dX6_keepBest_3 : decode (am_code 34) 3 = .ok (.aload_n 0, 1) := by decide +kernel
theorem dX6_keepBest_4 : decode (am_code 34) 4 = .ok (.getfield 58, 3) := by decide +kernel
theorem dX6_keepBest_7 : decode (am_code 34) 7 = .ok (.if_icmp .ge 26, 3) := by decide +kernel
theorem dX6_keepBest_10 : decode (am_code 34) 10 = .ok (.aload_n 0, 1) := by decide +kernel
theorem dX6_keepBest_11 : decode (am_code 34) 11 = .ok (.getfield 15, 3) := by decide +kernel
theorem dX6_keepBest_14 : decode (am_code 34) 14 = .ok (.iload_n 1, 1) := by decide +kernel
theorem dX6_keepBest_15 : decode (am_code 34) 15 = .ok (.aload_n 0, 1) := by decide +kernel
theorem dX6_keepBest_16 : decode (am_code 34) 16 = .ok (.getfield 18, 3) := by decide +kernel
theorem dX6_keepBest_19 : decode (am_code 34) 19 = .ok (.aload_n 0, 1) := by decide +kernel
theorem dX6_keepBest_20 : decode (am_code 34) 20 = .ok (.getfield 9, 3) := by decide +kernel
theorem dX6_keepBest_23 : decode (am_code 34) 23 = .ok (.iload_n 1, 1) := by decide +kernel
theorem dX6_keepBest_24 : decode (am_code 34) 24 = .ok (.iaload, 1) := by decide +kernel
theorem dX6_keepBest_25 : decode (am_code 34) 25 = .ok (.iaload, 1) := by decide +kernel
theorem dX6_keepBest_26 : decode (am_code 34) 26 = .ok (.iastore, 1) := by decide +kernel
theorem dX6_keepBest_27 : decode (am_code 34) 27 = .ok (.iinc 1 1, 3) := by decide +kernel
theorem dX6_keepBest_30 : decode (am_code 34) 30 = .ok (.goto (-28), 3) := by decide +kernel
theorem dX6_keepBest_33 : decode (am_code 34) 33 = .ok (.return_, 1) := by decide +kernel
theorem r34_0 (d : Nat) (ls st : List Value) (σ : am_St) (τ : Int64) : am_run d 34 0 ls st σ τ = am_run d 34 1 ls (.int 0 :: st) σ τ := rr_iconst 0 dX6_keepBest_0 (by decide)
theorem r34_1 (d : Nat) (st : List Value) (σ : am_St) (τ : Int64) (x : Int32) (v0 v1 : Value) : am_run d 34 1 [v0, v1] (.int x :: st) σ τ = am_run d 34 2 [am_nl v0, .int x] st σ τ := rr_istore_n _ dX6_keepBest_1 (by decide) (by first | rfl | (by_cases h : v0.category = 2 <;> simp [am_set1, am_nl, h]))
theorem r34_2 (d : Nat) (st : List Value) (σ : am_St) (τ : Int64) (x : Int32) (v0 : Value) : am_run d 34 2 [v0, .int x] st σ τ = am_run d 34 3 [v0, .int x] (.int x :: st) σ τ := rr_iload_n dX6_keepBest_2 rfl
theorem r34_3 (d : Nat) (st : List Value) (σ : am_St) (τ : Int64) (x : Nat) (v1 : Value) : am_run d 34 3 [.ref x, v1] st σ τ = am_run d 34 4 [.ref x, v1] (.ref x :: st) σ τ := rr_aload_n dX6_keepBest_3 rfl
theorem r34_4 (d : Nat) (ls st : List Value) (σ : am_St) (τ : Int64) (k : Nat) : am_run d 34 4 ls (.ref k :: st) σ τ = am_gf k 6 1 σ τ (fun v => am_run d 34 7 ls (v :: st) σ τ) := rr_getf dX6_keepBest_4 (by decide +kernel)
theorem r34_7 (d : Nat) (ls st : List Value) (σ : am_St) (τ : Int64) (x y : Int32) : am_run d 34 7 ls (.int y :: .int x :: st) σ τ = if y ≤ x then am_run d 34 33 ls st σ τ else am_run d 34 10 ls st σ τ := (rr_icmp 33 dX6_keepBest_7 (by decide)).trans am_sel
theorem r34_10 (d : Nat) (st : List Value) (σ : am_St) (τ : Int64) (x : Nat) (v1 : Value) : am_run d 34 10 [.ref x, v1] st σ τ = am_run d 34 11 [.ref x, v1] (.ref x :: st) σ τ := rr_aload_n dX6_keepBest_10 rfl
theorem r34_11 (d : Nat) (ls st : List Value) (σ : am_St) (τ : Int64) (k : Nat) : am_run d 34 11 ls (.ref k :: st) σ τ = am_gf k 6 3 σ τ (fun v => am_run d 34 14 ls (v :: st) σ τ) := rr_getf dX6_keepBest_11 (by decide +kernel)
theorem r34_14 (d : Nat) (st : List Value) (σ : am_St) (τ : Int64) (x : Int32) (v0 : Value) : am_run d 34 14 [v0, .int x] st σ τ = am_run d 34 15 [v0, .int x] (.int x :: st) σ τ := rr_iload_n dX6_keepBest_14 rfl
theorem r34_15 (d : Nat) (st : List Value) (σ : am_St) (τ : Int64) (x : Nat) (v1 : Value) : am_run d 34 15 [.ref x, v1] st σ τ = am_run d 34 16 [.ref x, v1] (.ref x :: st) σ τ := rr_aload_n dX6_keepBest_15 rfl
theorem r34_16 (d : Nat) (ls st : List Value) (σ : am_St) (τ : Int64) (k : Nat) : am_run d 34 16 ls (.ref k :: st) σ τ = am_gf k 6 4 σ τ (fun v => am_run d 34 19 ls (v :: st) σ τ) := rr_getf dX6_keepBest_16 (by decide +kernel)
theorem r34_19 (d : Nat) (st : List Value) (σ : am_St) (τ : Int64) (x : Nat) (v1 : Value) : am_run d 34 19 [.ref x, v1] st σ τ = am_run d 34 20 [.ref x, v1] (.ref x :: st) σ τ := rr_aload_n dX6_keepBest_19 rfl
theorem r34_20 (d : Nat) (ls st : List Value) (σ : am_St) (τ : Int64) (k : Nat) : am_run d 34 20 ls (.ref k :: st) σ τ = am_gf k 6 2 σ τ (fun v => am_run d 34 23 ls (v :: st) σ τ) := rr_getf dX6_keepBest_20 (by decide +kernel)
theorem r34_23 (d : Nat) (st : List Value) (σ : am_St) (τ : Int64) (x : Int32) (v0 : Value) : am_run d 34 23 [v0, .int x] st σ τ = am_run d 34 24 [v0, .int x] (.int x :: st) σ τ := rr_iload_n dX6_keepBest_23 rfl
theorem r34_24 (d : Nat) (ls st : List Value) (σ : am_St) (τ : Int64) (i : Int32) (k : Nat) : am_run d 34 24 ls (.int i :: .ref k :: st) σ τ = am_ai false k i (fun j => am_run d 34 25 ls (.int (σ k j) :: st) σ τ) := rr_iald dX6_keepBest_24
theorem r34_25 (d : Nat) (ls st : List Value) (σ : am_St) (τ : Int64) (i : Int32) (k : Nat) : am_run d 34 25 ls (.int i :: .ref k :: st) σ τ = am_ai false k i (fun j => am_run d 34 26 ls (.int (σ k j) :: st) σ τ) := rr_iald dX6_keepBest_25
theorem r34_26 (d : Nat) (ls st : List Value) (σ : am_St) (τ : Int64) (x i : Int32) (k : Nat) : am_run d 34 26 ls (.int x :: .int i :: .ref k :: st) σ τ = am_ai false k i (fun j => am_run d 34 27 ls st (am_up σ k j x) τ) := rr_iast dX6_keepBest_26
theorem r34_27 (d : Nat) (st : List Value) (σ : am_St) (τ : Int64) (x : Int32) (v0 : Value) : am_run d 34 27 [v0, .int x] st σ τ = am_run d 34 30 [am_nl v0, .int (x + 1)] st σ τ := rr_iinc 1 _ dX6_keepBest_27 rfl (by decide) (by decide) (by first | rfl | (by_cases h : v0.category = 2 <;> simp [am_set1, am_nl, h]))
theorem r34_30 (d : Nat) (ls st : List Value) (σ : am_St) (τ : Int64) : am_run d 34 30 ls st σ τ = am_run d 34 2 ls st σ τ := rr_goto 2 dX6_keepBest_30 (by decide)
theorem r34_33 (d : Nat) (ls : List Value) (σ : am_St) (τ : Int64) : am_run d 34 33 ls [] σ τ = some (none, σ, τ) := rr_vret dX6_keepBest_33 rfl
theorem dX2_search_0 : decode (am_code 20) 0 = .ok (.aload_n 0, 1) := by decide +kernel
theorem dX2_search_1 : decode (am_code 20) 1 = .ok (.invokevirtual 35, 3) := by decide +kernel
theorem dX2_search_4 : decode (am_code 20) 4 = .ok (.istore_n 2, 1) := by decide +kernel
theorem dX2_search_5 : decode (am_code 20) 5 = .ok (.aload_n 0, 1) := by decide +kernel
theorem dX2_search_6 : decode (am_code 20) 6 = .ok (.iconst 0, 1) := by decide +kernel
theorem dX2_search_7 : decode (am_code 20) 7 = .ok (.putfield 39, 3) := by decide +kernel
theorem dX2_search_10 : decode (am_code 20) 10 = .ok (.iconst 0, 1) := by decide +kernel
theorem dX2_search_11 : decode (am_code 20) 11 = .ok (.istore_n 3, 1) := by decide +kernel
theorem dX2_search_12 : decode (am_code 20) 12 = .ok (.iload_n 3, 1) := by decide +kernel
theorem dX2_search_13 : decode (am_code 20) 13 = .ok (.aload_n 0, 1) := by decide +kernel
theorem dX2_search_14 : decode (am_code 20) 14 = .ok (.getfield 27, 3) := by decide +kernel
theorem dX2_search_17 : decode (am_code 20) 17 = .ok (.getfield 43, 3) := by decide +kernel
theorem dX2_search_20 : decode (am_code 20) 20 = .ok (.if_icmp .ge 31, 3) := by decide +kernel
theorem dX2_search_23 : decode (am_code 20) 23 = .ok (.aload_n 0, 1) := by decide +kernel
theorem dX2_search_24 : decode (am_code 20) 24 = .ok (.getfield 24, 3) := by decide +kernel
theorem dX2_search_27 : decode (am_code 20) 27 = .ok (.iload_n 3, 1) := by decide +kernel
theorem dX2_search_28 : decode (am_code 20) 28 = .ok (.aload_n 0, 1) := by decide +kernel
theorem dX2_search_29 : decode (am_code 20) 29 = .ok (.getfield 27, 3) := by decide +kernel
theorem dX2_search_32 : decode (am_code 20) 32 = .ok (.getfield 48, 3) := by decide +kernel
theorem dX2_search_35 : decode (am_code 20) 35 = .ok (.iload_n 3, 1) := by decide +kernel
theorem dX2_search_36 : decode (am_code 20) 36 = .ok (.iaload, 1) := by decide +kernel
theorem dX2_search_37 : decode (am_code 20) 37 = .ok (.iastore, 1) := by decide +kernel
theorem dX2_search_38 : decode (am_code 20) 38 = .ok (.aload_n 0, 1) := by decide +kernel
theorem dX2_search_39 : decode (am_code 20) 39 = .ok (.getfield 9, 3) := by decide +kernel
theorem dX2_search_42 : decode (am_code 20) 42 = .ok (.iload_n 3, 1) := by decide +kernel
theorem dX2_search_43 : decode (am_code 20) 43 = .ok (.iconst (-1), 1) := by decide +kernel
theorem dX2_search_44 : decode (am_code 20) 44 = .ok (.iastore, 1) := by decide +kernel
theorem dX2_search_45 : decode (am_code 20) 45 = .ok (.iinc 3 1, 3) := by decide +kernel
theorem dX2_search_48 : decode (am_code 20) 48 = .ok (.goto (-36), 3) := by decide +kernel
theorem dX2_search_51 : decode (am_code 20) 51 = .ok (.iconst 0, 1) := by decide +kernel
theorem dX2_search_52 : decode (am_code 20) 52 = .ok (.istore_n 3, 1) := by decide +kernel
theorem dX2_search_53 : decode (am_code 20) 53 = .ok (.iload_n 3, 1) := by decide +kernel
theorem dX2_search_54 : decode (am_code 20) 54 = .ok (.iload_n 2, 1) := by decide +kernel
theorem dX2_search_55 : decode (am_code 20) 55 = .ok (.if_icmp .ge 48, 3) := by decide +kernel
theorem dX2_search_58 : decode (am_code 20) 58 = .ok (.aload_n 0, 1) := by decide +kernel
theorem dX2_search_59 : decode (am_code 20) 59 = .ok (.iload_n 3, 1) := by decide +kernel
theorem dX2_search_60 : decode (am_code 20) 60 = .ok (.invokevirtual 51, 3) := by decide +kernel
theorem dX2_search_63 : decode (am_code 20) 63 = .ok (.aload_n 0, 1) := by decide +kernel
theorem dX2_search_64 : decode (am_code 20) 64 = .ok (.getfield 31, 3) := by decide +kernel
theorem dX2_search_67 : decode (am_code 20) 67 = .ok (.aload_n 0, 1) := by decide +kernel
theorem dX2_search_68 : decode (am_code 20) 68 = .ok (.getfield 24, 3) := by decide +kernel
theorem dX2_search_71 : decode (am_code 20) 71 = .ok (.aload_n 0, 1) := by decide +kernel
theorem dX2_search_72 : decode (am_code 20) 72 = .ok (.getfield 27, 3) := by decide +kernel
theorem dX2_search_75 : decode (am_code 20) 75 = .ok (.getfield 55, 3) := by decide +kernel
theorem dX2_search_78 : decode (am_code 20) 78 = .ok (.aload_n 1, 1) := by decide +kernel
theorem dX2_search_79 : decode (am_code 20) 79 = .ok (.invokevirtual 58, 3) := by decide +kernel
theorem dX2_search_82 : decode (am_code 20) 82 = .ok (.aload_n 0, 1) := by decide +kernel
theorem dX2_search_83 : decode (am_code 20) 83 = .ok (.getfield 31, 3) := by decide +kernel
theorem dX2_search_86 : decode (am_code 20) 86 = .ok (.invokevirtual 64, 3) := by decide +kernel
theorem dX2_search_89 : decode (am_code 20) 89 = .ok (.iconst (-1), 1) := by decide +kernel
theorem dX2_search_90 : decode (am_code 20) 90 = .ok (.if_icmp .ne 7, 3) := by decide +kernel
theorem dX2_search_93 : decode (am_code 20) 93 = .ok (.aload_n 0, 1) := by decide +kernel
theorem dX2_search_94 : decode (am_code 20) 94 = .ok (.invokevirtual 67, 3) := by decide +kernel
theorem dX2_search_97 : decode (am_code 20) 97 = .ok (.iinc 3 1, 3) := by decide +kernel
theorem dX2_search_100 : decode (am_code 20) 100 = .ok (.goto (-47), 3) := by decide +kernel
theorem dX2_search_103 : decode (am_code 20) 103 = .ok (.return_, 1) := by decide +kernel
theorem r20_0 (d : Nat) (st : List Value) (σ : am_St) (τ : Int64) (x : Nat) (v1 v2 v3 : Value) : am_run d 20 0 [.ref x, v1, v2, v3] st σ τ = am_run d 20 1 [.ref x, v1, v2, v3] (.ref x :: st) σ τ := rr_aload_n dX2_search_0 rfl
theorem r20_1 (d : Nat) (ls st : List Value) (σ : am_St) (τ : Int64) (k : Nat)  (hk : am_kc k = 2) (hc : am_cats st ≤ 8) : am_run (d + 1) 20 1 ls (.ref k :: st) σ τ = (am_call d 21 [.ref k] σ τ).bind (fun r => am_run (d + 1) 20 4 ls (r.1.toList ++ st) r.2.1 r.2.2) := rr_invv [] dX2_search_1 (by decide +kernel) (by decide) rfl (Nat.le_of_ble_eq_true rfl) hk hc
theorem r20_4 (d : Nat) (st : List Value) (σ : am_St) (τ : Int64) (x : Int32) (v0 v1 v2 v3 : Value) : am_run d 20 4 [v0, v1, v2, v3] (.int x :: st) σ τ = am_run d 20 5 [v0, am_nl v1, .int x, v3] st σ τ := rr_istore_n _ dX2_search_4 (by decide) (by first | rfl | (by_cases h : v1.category = 2 <;> simp [am_set1, am_nl, h]))
theorem r20_5 (d : Nat) (st : List Value) (σ : am_St) (τ : Int64) (x : Nat) (v1 v2 v3 : Value) : am_run d 20 5 [.ref x, v1, v2, v3] st σ τ = am_run d 20 6 [.ref x, v1, v2, v3] (.ref x :: st) σ τ := rr_aload_n dX2_search_5 rfl
theorem r20_6 (d : Nat) (ls st : List Value) (σ : am_St) (τ : Int64) : am_run d 20 6 ls st σ τ = am_run d 20 7 ls (.int 0 :: st) σ τ := rr_iconst 0 dX2_search_6 (by decide)
theorem r20_7 (d : Nat) (ls st : List Value) (σ : am_St) (τ : Int64) (k : Nat) (x : Int32) : am_run d 20 7 ls (.int x :: .ref k :: st) σ τ = am_pf k 2 0 x σ (fun σ => am_run d 20 10 ls st σ τ) := rr_putf dX2_search_7 (by decide +kernel)
theorem r20_10 (d : Nat) (ls st : List Value) (σ : am_St) (τ : Int64) : am_run d 20 10 ls st σ τ = am_run d 20 11 ls (.int 0 :: st) σ τ := rr_iconst 0 dX2_search_10 (by decide)
theorem r20_11 (d : Nat) (st : List Value) (σ : am_St) (τ : Int64) (x : Int32) (v0 v1 v2 v3 : Value) : am_run d 20 11 [v0, v1, v2, v3] (.int x :: st) σ τ = am_run d 20 12 [v0, v1, am_nl v2, .int x] st σ τ := rr_istore_n _ dX2_search_11 (by decide) (by first | rfl | (by_cases h : v2.category = 2 <;> simp [am_set1, am_nl, h]))
theorem r20_12 (d : Nat) (st : List Value) (σ : am_St) (τ : Int64) (x : Int32) (v0 v1 v2 : Value) : am_run d 20 12 [v0, v1, v2, .int x] st σ τ = am_run d 20 13 [v0, v1, v2, .int x] (.int x :: st) σ τ := rr_iload_n dX2_search_12 rfl
theorem r20_13 (d : Nat) (st : List Value) (σ : am_St) (τ : Int64) (x : Nat) (v1 v2 v3 : Value) : am_run d 20 13 [.ref x, v1, v2, v3] st σ τ = am_run d 20 14 [.ref x, v1, v2, v3] (.ref x :: st) σ τ := rr_aload_n dX2_search_13 rfl
theorem r20_14 (d : Nat) (ls st : List Value) (σ : am_St) (τ : Int64) (k : Nat) : am_run d 20 14 ls (.ref k :: st) σ τ = am_gf k 2 7 σ τ (fun v => am_run d 20 17 ls (v :: st) σ τ) := rr_getf dX2_search_14 (by decide +kernel)
theorem r20_17 (d : Nat) (ls st : List Value) (σ : am_St) (τ : Int64) (k : Nat) : am_run d 20 17 ls (.ref k :: st) σ τ = am_gf k 1 0 σ τ (fun v => am_run d 20 20 ls (v :: st) σ τ) := rr_getf dX2_search_17 (by decide +kernel)
theorem r20_20 (d : Nat) (ls st : List Value) (σ : am_St) (τ : Int64) (x y : Int32) : am_run d 20 20 ls (.int y :: .int x :: st) σ τ = if y ≤ x then am_run d 20 51 ls st σ τ else am_run d 20 23 ls st σ τ := (rr_icmp 51 dX2_search_20 (by decide)).trans am_sel
theorem r20_23 (d : Nat) (st : List Value) (σ : am_St) (τ : Int64) (x : Nat) (v1 v2 v3 : Value) : am_run d 20 23 [.ref x, v1, v2, v3] st σ τ = am_run d 20 24 [.ref x, v1, v2, v3] (.ref x :: st) σ τ := rr_aload_n dX2_search_23 rfl
theorem r20_24 (d : Nat) (ls st : List Value) (σ : am_St) (τ : Int64) (k : Nat) : am_run d 20 24 ls (.ref k :: st) σ τ = am_gf k 2 6 σ τ (fun v => am_run d 20 27 ls (v :: st) σ τ) := rr_getf dX2_search_24 (by decide +kernel)
theorem r20_27 (d : Nat) (st : List Value) (σ : am_St) (τ : Int64) (x : Int32) (v0 v1 v2 : Value) : am_run d 20 27 [v0, v1, v2, .int x] st σ τ = am_run d 20 28 [v0, v1, v2, .int x] (.int x :: st) σ τ := rr_iload_n dX2_search_27 rfl
theorem r20_28 (d : Nat) (st : List Value) (σ : am_St) (τ : Int64) (x : Nat) (v1 v2 v3 : Value) : am_run d 20 28 [.ref x, v1, v2, v3] st σ τ = am_run d 20 29 [.ref x, v1, v2, v3] (.ref x :: st) σ τ := rr_aload_n dX2_search_28 rfl
theorem r20_29 (d : Nat) (ls st : List Value) (σ : am_St) (τ : Int64) (k : Nat) : am_run d 20 29 ls (.ref k :: st) σ τ = am_gf k 2 7 σ τ (fun v => am_run d 20 32 ls (v :: st) σ τ) := rr_getf dX2_search_29 (by decide +kernel)
theorem r20_32 (d : Nat) (ls st : List Value) (σ : am_St) (τ : Int64) (k : Nat) : am_run d 20 32 ls (.ref k :: st) σ τ = am_gf k 1 3 σ τ (fun v => am_run d 20 35 ls (v :: st) σ τ) := rr_getf dX2_search_32 (by decide +kernel)
theorem r20_35 (d : Nat) (st : List Value) (σ : am_St) (τ : Int64) (x : Int32) (v0 v1 v2 : Value) : am_run d 20 35 [v0, v1, v2, .int x] st σ τ = am_run d 20 36 [v0, v1, v2, .int x] (.int x :: st) σ τ := rr_iload_n dX2_search_35 rfl
theorem r20_36 (d : Nat) (ls st : List Value) (σ : am_St) (τ : Int64) (i : Int32) (k : Nat) : am_run d 20 36 ls (.int i :: .ref k :: st) σ τ = am_ai false k i (fun j => am_run d 20 37 ls (.int (σ k j) :: st) σ τ) := rr_iald dX2_search_36
theorem r20_37 (d : Nat) (ls st : List Value) (σ : am_St) (τ : Int64) (x i : Int32) (k : Nat) : am_run d 20 37 ls (.int x :: .int i :: .ref k :: st) σ τ = am_ai false k i (fun j => am_run d 20 38 ls st (am_up σ k j x) τ) := rr_iast dX2_search_37
theorem r20_38 (d : Nat) (st : List Value) (σ : am_St) (τ : Int64) (x : Nat) (v1 v2 v3 : Value) : am_run d 20 38 [.ref x, v1, v2, v3] st σ τ = am_run d 20 39 [.ref x, v1, v2, v3] (.ref x :: st) σ τ := rr_aload_n dX2_search_38 rfl
theorem r20_39 (d : Nat) (ls st : List Value) (σ : am_St) (τ : Int64) (k : Nat) : am_run d 20 39 ls (.ref k :: st) σ τ = am_gf k 2 1 σ τ (fun v => am_run d 20 42 ls (v :: st) σ τ) := rr_getf dX2_search_39 (by decide +kernel)
theorem r20_42 (d : Nat) (st : List Value) (σ : am_St) (τ : Int64) (x : Int32) (v0 v1 v2 : Value) : am_run d 20 42 [v0, v1, v2, .int x] st σ τ = am_run d 20 43 [v0, v1, v2, .int x] (.int x :: st) σ τ := rr_iload_n dX2_search_42 rfl
theorem r20_43 (d : Nat) (ls st : List Value) (σ : am_St) (τ : Int64) : am_run d 20 43 ls st σ τ = am_run d 20 44 ls (.int (-1) :: st) σ τ := rr_iconst (-1) dX2_search_43 (by decide)
theorem r20_44 (d : Nat) (ls st : List Value) (σ : am_St) (τ : Int64) (x i : Int32) (k : Nat) : am_run d 20 44 ls (.int x :: .int i :: .ref k :: st) σ τ = am_ai false k i (fun j => am_run d 20 45 ls st (am_up σ k j x) τ) := rr_iast dX2_search_44
theorem r20_45 (d : Nat) (st : List Value) (σ : am_St) (τ : Int64) (x : Int32) (v0 v1 v2 : Value) : am_run d 20 45 [v0, v1, v2, .int x] st σ τ = am_run d 20 48 [v0, v1, am_nl v2, .int (x + 1)] st σ τ := rr_iinc 1 _ dX2_search_45 rfl (by decide) (by decide) (by first | rfl | (by_cases h : v2.category = 2 <;> simp [am_set1, am_nl, h]))
theorem r20_48 (d : Nat) (ls st : List Value) (σ : am_St) (τ : Int64) : am_run d 20 48 ls st σ τ = am_run d 20 12 ls st σ τ := rr_goto 12 dX2_search_48 (by decide)
theorem r20_51 (d : Nat) (ls st : List Value) (σ : am_St) (τ : Int64) : am_run d 20 51 ls st σ τ = am_run d 20 52 ls (.int 0 :: st) σ τ := rr_iconst 0 dX2_search_51 (by decide)
theorem r20_52 (d : Nat) (st : List Value) (σ : am_St) (τ : Int64) (x : Int32) (v0 v1 v2 v3 : Value) : am_run d 20 52 [v0, v1, v2, v3] (.int x :: st) σ τ = am_run d 20 53 [v0, v1, am_nl v2, .int x] st σ τ := rr_istore_n _ dX2_search_52 (by decide) (by first | rfl | (by_cases h : v2.category = 2 <;> simp [am_set1, am_nl, h]))
theorem r20_53 (d : Nat) (st : List Value) (σ : am_St) (τ : Int64) (x : Int32) (v0 v1 v2 : Value) : am_run d 20 53 [v0, v1, v2, .int x] st σ τ = am_run d 20 54 [v0, v1, v2, .int x] (.int x :: st) σ τ := rr_iload_n dX2_search_53 rfl
theorem r20_54 (d : Nat) (st : List Value) (σ : am_St) (τ : Int64) (x : Int32) (v0 v1 v3 : Value) : am_run d 20 54 [v0, v1, .int x, v3] st σ τ = am_run d 20 55 [v0, v1, .int x, v3] (.int x :: st) σ τ := rr_iload_n dX2_search_54 rfl
theorem r20_55 (d : Nat) (ls st : List Value) (σ : am_St) (τ : Int64) (x y : Int32) : am_run d 20 55 ls (.int y :: .int x :: st) σ τ = if y ≤ x then am_run d 20 103 ls st σ τ else am_run d 20 58 ls st σ τ := (rr_icmp 103 dX2_search_55 (by decide)).trans am_sel
theorem r20_58 (d : Nat) (st : List Value) (σ : am_St) (τ : Int64) (x : Nat) (v1 v2 v3 : Value) : am_run d 20 58 [.ref x, v1, v2, v3] st σ τ = am_run d 20 59 [.ref x, v1, v2, v3] (.ref x :: st) σ τ := rr_aload_n dX2_search_58 rfl
theorem r20_59 (d : Nat) (st : List Value) (σ : am_St) (τ : Int64) (x : Int32) (v0 v1 v2 : Value) : am_run d 20 59 [v0, v1, v2, .int x] st σ τ = am_run d 20 60 [v0, v1, v2, .int x] (.int x :: st) σ τ := rr_iload_n dX2_search_59 rfl
theorem r20_60 (d : Nat) (ls st : List Value) (σ : am_St) (τ : Int64) (k : Nat) (a0 : Int32) (hk : am_kc k = 2) (hc : am_cats st ≤ 8) : am_run (d + 1) 20 60 ls (.int a0 :: .ref k :: st) σ τ = (am_call d 22 [.ref k, .int a0] σ τ).bind (fun r => am_run (d + 1) 20 63 ls (r.1.toList ++ st) r.2.1 r.2.2) := rr_invv [.int a0] dX2_search_60 (by decide +kernel) (by decide) rfl (Nat.le_of_ble_eq_true rfl) hk hc
theorem r20_63 (d : Nat) (st : List Value) (σ : am_St) (τ : Int64) (x : Nat) (v1 v2 v3 : Value) : am_run d 20 63 [.ref x, v1, v2, v3] st σ τ = am_run d 20 64 [.ref x, v1, v2, v3] (.ref x :: st) σ τ := rr_aload_n dX2_search_63 rfl
theorem r20_64 (d : Nat) (ls st : List Value) (σ : am_St) (τ : Int64) (k : Nat) : am_run d 20 64 ls (.ref k :: st) σ τ = am_gf k 2 8 σ τ (fun v => am_run d 20 67 ls (v :: st) σ τ) := rr_getf dX2_search_64 (by decide +kernel)
theorem r20_67 (d : Nat) (st : List Value) (σ : am_St) (τ : Int64) (x : Nat) (v1 v2 v3 : Value) : am_run d 20 67 [.ref x, v1, v2, v3] st σ τ = am_run d 20 68 [.ref x, v1, v2, v3] (.ref x :: st) σ τ := rr_aload_n dX2_search_67 rfl
theorem r20_68 (d : Nat) (ls st : List Value) (σ : am_St) (τ : Int64) (k : Nat) : am_run d 20 68 ls (.ref k :: st) σ τ = am_gf k 2 6 σ τ (fun v => am_run d 20 71 ls (v :: st) σ τ) := rr_getf dX2_search_68 (by decide +kernel)
theorem r20_71 (d : Nat) (st : List Value) (σ : am_St) (τ : Int64) (x : Nat) (v1 v2 v3 : Value) : am_run d 20 71 [.ref x, v1, v2, v3] st σ τ = am_run d 20 72 [.ref x, v1, v2, v3] (.ref x :: st) σ τ := rr_aload_n dX2_search_71 rfl
theorem r20_72 (d : Nat) (ls st : List Value) (σ : am_St) (τ : Int64) (k : Nat) : am_run d 20 72 ls (.ref k :: st) σ τ = am_gf k 2 7 σ τ (fun v => am_run d 20 75 ls (v :: st) σ τ) := rr_getf dX2_search_72 (by decide +kernel)
theorem r20_75 (d : Nat) (ls st : List Value) (σ : am_St) (τ : Int64) (k : Nat) : am_run d 20 75 ls (.ref k :: st) σ τ = am_gf k 1 7 σ τ (fun v => am_run d 20 78 ls (v :: st) σ τ) := rr_getf dX2_search_75 (by decide +kernel)
theorem r20_78 (d : Nat) (st : List Value) (σ : am_St) (τ : Int64) (x : Nat) (v0 v2 v3 : Value) : am_run d 20 78 [v0, .ref x, v2, v3] st σ τ = am_run d 20 79 [v0, .ref x, v2, v3] (.ref x :: st) σ τ := rr_aload_n dX2_search_78 rfl
theorem r20_79 (d : Nat) (ls st : List Value) (σ : am_St) (τ : Int64) (k : Nat) (a0 : Nat) (a1 : Nat) (a2 : Nat) (hk : am_kc k = 7) (hc : am_cats st ≤ 8) : am_run (d + 1) 20 79 ls (.ref a2 :: .ref a1 :: .ref a0 :: .ref k :: st) σ τ = (am_call d 35 [.ref k, .ref a0, .ref a1, .ref a2] σ τ).bind (fun r => am_run (d + 1) 20 82 ls (r.1.toList ++ st) r.2.1 r.2.2) := rr_invv [.ref a0, .ref a1, .ref a2] dX2_search_79 (by decide +kernel) (by decide) rfl (Nat.le_of_ble_eq_true rfl) hk hc
theorem r20_82 (d : Nat) (st : List Value) (σ : am_St) (τ : Int64) (x : Nat) (v1 v2 v3 : Value) : am_run d 20 82 [.ref x, v1, v2, v3] st σ τ = am_run d 20 83 [.ref x, v1, v2, v3] (.ref x :: st) σ τ := rr_aload_n dX2_search_82 rfl
theorem r20_83 (d : Nat) (ls st : List Value) (σ : am_St) (τ : Int64) (k : Nat) : am_run d 20 83 ls (.ref k :: st) σ τ = am_gf k 2 8 σ τ (fun v => am_run d 20 86 ls (v :: st) σ τ) := rr_getf dX2_search_83 (by decide +kernel)
theorem r20_86 (d : Nat) (ls st : List Value) (σ : am_St) (τ : Int64) (k : Nat)  (hk : am_kc k = 7) (hc : am_cats st ≤ 8) : am_run (d + 1) 20 86 ls (.ref k :: st) σ τ = (am_call d 43 [.ref k] σ τ).bind (fun r => am_run (d + 1) 20 89 ls (r.1.toList ++ st) r.2.1 r.2.2) := rr_invv [] dX2_search_86 (by decide +kernel) (by decide) rfl (Nat.le_of_ble_eq_true rfl) hk hc
theorem r20_89 (d : Nat) (ls st : List Value) (σ : am_St) (τ : Int64) : am_run d 20 89 ls st σ τ = am_run d 20 90 ls (.int (-1) :: st) σ τ := rr_iconst (-1) dX2_search_89 (by decide)
theorem r20_90 (d : Nat) (ls st : List Value) (σ : am_St) (τ : Int64) (x y : Int32) : am_run d 20 90 ls (.int y :: .int x :: st) σ τ = if x = y then am_run d 20 93 ls st σ τ else am_run d 20 97 ls st σ τ := (rr_icmp 97 dX2_search_90 (by decide)).trans am_seln
theorem r20_93 (d : Nat) (st : List Value) (σ : am_St) (τ : Int64) (x : Nat) (v1 v2 v3 : Value) : am_run d 20 93 [.ref x, v1, v2, v3] st σ τ = am_run d 20 94 [.ref x, v1, v2, v3] (.ref x :: st) σ τ := rr_aload_n dX2_search_93 rfl
theorem r20_94 (d : Nat) (ls st : List Value) (σ : am_St) (τ : Int64) (k : Nat)  (hk : am_kc k = 2) (hc : am_cats st ≤ 8) : am_run (d + 1) 20 94 ls (.ref k :: st) σ τ = (am_call d 23 [.ref k] σ τ).bind (fun r => am_run (d + 1) 20 97 ls (r.1.toList ++ st) r.2.1 r.2.2) := rr_invv [] dX2_search_94 (by decide +kernel) (by decide) rfl (Nat.le_of_ble_eq_true rfl) hk hc
theorem r20_97 (d : Nat) (st : List Value) (σ : am_St) (τ : Int64) (x : Int32) (v0 v1 v2 : Value) : am_run d 20 97 [v0, v1, v2, .int x] st σ τ = am_run d 20 100 [v0, v1, am_nl v2, .int (x + 1)] st σ τ := rr_iinc 1 _ dX2_search_97 rfl (by decide) (by decide) (by first | rfl | (by_cases h : v2.category = 2 <;> simp [am_set1, am_nl, h]))
theorem r20_100 (d : Nat) (ls st : List Value) (σ : am_St) (τ : Int64) : am_run d 20 100 ls st σ τ = am_run d 20 53 ls st σ τ := rr_goto 53 dX2_search_100 (by decide)
theorem r20_103 (d : Nat) (ls : List Value) (σ : am_St) (τ : Int64) : am_run d 20 103 ls [] σ τ = some (none, σ, τ) := rr_vret dX2_search_103 rfl
theorem dX2_findGaps_0 : decode (am_code 21) 0 = .ok (.aload_n 0, 1) := by decide +kernel
theorem dX2_findGaps_1 : decode (am_code 21) 1 = .ok (.iconst 0, 1) := by decide +kernel
theorem dX2_findGaps_2 : decode (am_code 21) 2 = .ok (.putfield 70, 3) := by decide +kernel
theorem dX2_findGaps_5 : decode (am_code 21) 5 = .ok (.iconst 1, 1) := by decide +kernel
theorem dX2_findGaps_6 : decode (am_code 21) 6 = .ok (.istore_n 1, 1) := by decide +kernel
theorem dX2_findGaps_7 : decode (am_code 21) 7 = .ok (.iconst 0, 1) := by decide +kernel
theorem dX2_findGaps_8 : decode (am_code 21) 8 = .ok (.istore_n 2, 1) := by decide +kernel
theorem dX2_findGaps_9 : decode (am_code 21) 9 = .ok (.iconst 0, 1) := by decide +kernel
theorem dX2_findGaps_10 : decode (am_code 21) 10 = .ok (.istore_n 3, 1) := by decide +kernel
theorem dX2_findGaps_11 : decode (am_code 21) 11 = .ok (.iload_n 3, 1) := by decide +kernel
theorem dX2_findGaps_12 : decode (am_code 21) 12 = .ok (.aload_n 0, 1) := by decide +kernel
theorem dX2_findGaps_13 : decode (am_code 21) 13 = .ok (.getfield 27, 3) := by decide +kernel
theorem dX2_findGaps_16 : decode (am_code 21) 16 = .ok (.getfield 43, 3) := by decide +kernel
theorem dX2_findGaps_19 : decode (am_code 21) 19 = .ok (.if_icmp .ge 89, 3) := by decide +kernel
theorem dX2_findGaps_22 : decode (am_code 21) 22 = .ok (.aload_n 0, 1) := by decide +kernel
theorem dX2_findGaps_23 : decode (am_code 21) 23 = .ok (.getfield 27, 3) := by decide +kernel
theorem dX2_findGaps_26 : decode (am_code 21) 26 = .ok (.getfield 73, 3) := by decide +kernel
theorem dX2_findGaps_29 : decode (am_code 21) 29 = .ok (.iload_n 3, 1) := by decide +kernel
theorem dX2_findGaps_30 : decode (am_code 21) 30 = .ok (.baload, 1) := by decide +kernel
theorem dX2_findGaps_31 : decode (am_code 21) 31 = .ok (.ifCond .eq 49, 3) := by decide +kernel
theorem dX2_findGaps_34 : decode (am_code 21) 34 = .ok (.aload_n 0, 1) := by decide +kernel
theorem dX2_findGaps_35 : decode (am_code 21) 35 = .ok (.getfield 70, 3) := by decide +kernel
theorem dX2_findGaps_38 : decode (am_code 21) 38 = .ok (.iconst 3, 1) := by decide +kernel
theorem dX2_findGaps_39 : decode (am_code 21) 39 = .ok (.if_icmp .ge 41, 3) := by decide +kernel
theorem dX2_findGaps_42 : decode (am_code 21) 42 = .ok (.iload_n 2, 1) := by decide +kernel
theorem dX2_findGaps_43 : decode (am_code 21) 43 = .ok (.ifCond .le 37, 3) := by decide +kernel
theorem dX2_findGaps_46 : decode (am_code 21) 46 = .ok (.aload_n 0, 1) := by decide +kernel
theorem dX2_findGaps_47 : decode (am_code 21) 47 = .ok (.getfield 15, 3) := by decide +kernel
theorem dX2_findGaps_50 : decode (am_code 21) 50 = .ok (.aload_n 0, 1) := by decide +kernel
theorem dX2_findGaps_51 : decode (am_code 21) 51 = .ok (.getfield 70, 3) := by decide +kernel
theorem dX2_findGaps_54 : decode (am_code 21) 54 = .ok (.iload_n 3, 1) := by decide +kernel
theorem dX2_findGaps_55 : decode (am_code 21) 55 = .ok (.iastore, 1) := by decide +kernel
theorem dX2_findGaps_56 : decode (am_code 21) 56 = .ok (.aload_n 0, 1) := by decide +kernel
theorem dX2_findGaps_57 : decode (am_code 21) 57 = .ok (.getfield 18, 3) := by decide +kernel
theorem dX2_findGaps_60 : decode (am_code 21) 60 = .ok (.aload_n 0, 1) := by decide +kernel
theorem dX2_findGaps_61 : decode (am_code 21) 61 = .ok (.getfield 70, 3) := by decide +kernel
theorem dX2_findGaps_64 : decode (am_code 21) 64 = .ok (.iload_n 2, 1) := by decide +kernel
theorem dX2_findGaps_65 : decode (am_code 21) 65 = .ok (.iastore, 1) := by decide +kernel
theorem dX2_findGaps_66 : decode (am_code 21) 66 = .ok (.aload_n 0, 1) := by decide +kernel
theorem dX2_findGaps_67 : decode (am_code 21) 67 = .ok (.dup, 1) := by decide +kernel
theorem dX2_findGaps_68 : decode (am_code 21) 68 = .ok (.getfield 70, 3) := by decide +kernel
theorem dX2_findGaps_71 : decode (am_code 21) 71 = .ok (.iconst 1, 1) := by decide +kernel
theorem dX2_findGaps_72 : decode (am_code 21) 72 = .ok (.iadd, 1) := by decide +kernel
theorem dX2_findGaps_73 : decode (am_code 21) 73 = .ok (.putfield 70, 3) := by decide +kernel
theorem dX2_findGaps_76 : decode (am_code 21) 76 = .ok (.iload_n 1, 1) := by decide +kernel
theorem dX2_findGaps_77 : decode (am_code 21) 77 = .ok (.iload_n 2, 1) := by decide +kernel
theorem dX2_findGaps_78 : decode (am_code 21) 78 = .ok (.imul, 1) := by decide +kernel
theorem dX2_findGaps_79 : decode (am_code 21) 79 = .ok (.istore_n 1, 1) := by decide +kernel
theorem dX2_findGaps_80 : decode (am_code 21) 80 = .ok (.aload_n 0, 1) := by decide +kernel
theorem dX2_findGaps_81 : decode (am_code 21) 81 = .ok (.getfield 27, 3) := by decide +kernel
theorem dX2_findGaps_84 : decode (am_code 21) 84 = .ok (.getfield 77, 3) := by decide +kernel
theorem dX2_findGaps_87 : decode (am_code 21) 87 = .ok (.iload_n 3, 1) := by decide +kernel
theorem dX2_findGaps_88 : decode (am_code 21) 88 = .ok (.iaload, 1) := by decide +kernel
theorem dX2_findGaps_89 : decode (am_code 21) 89 = .ok (.ifCond .ne 13, 3) := by decide +kernel
theorem dX2_findGaps_92 : decode (am_code 21) 92 = .ok (.aload_n 0, 1) := by decide +kernel
theorem dX2_findGaps_93 : decode (am_code 21) 93 = .ok (.getfield 21, 3) := by decide +kernel
theorem dX2_findGaps_96 : decode (am_code 21) 96 = .ok (.iload_n 2, 1) := by decide +kernel
theorem dX2_findGaps_97 : decode (am_code 21) 97 = .ok (.iload_n 3, 1) := by decide +kernel
theorem dX2_findGaps_98 : decode (am_code 21) 98 = .ok (.iastore, 1) := by decide +kernel
theorem dX2_findGaps_99 : decode (am_code 21) 99 = .ok (.iinc 2 1, 3) := by decide +kernel
theorem dX2_findGaps_102 : decode (am_code 21) 102 = .ok (.iinc 3 1, 3) := by decide +kernel
theorem dX2_findGaps_105 : decode (am_code 21) 105 = .ok (.goto (-94), 3) := by decide +kernel
theorem dX2_findGaps_108 : decode (am_code 21) 108 = .ok (.iload_n 1, 1) := by decide +kernel
theorem dX2_findGaps_109 : decode (am_code 21) 109 = .ok (.ireturn, 1) := by decide +kernel
theorem r21_0 (d : Nat) (st : List Value) (σ : am_St) (τ : Int64) (x : Nat) (v1 v2 v3 : Value) : am_run d 21 0 [.ref x, v1, v2, v3] st σ τ = am_run d 21 1 [.ref x, v1, v2, v3] (.ref x :: st) σ τ := rr_aload_n dX2_findGaps_0 rfl
theorem r21_1 (d : Nat) (ls st : List Value) (σ : am_St) (τ : Int64) : am_run d 21 1 ls st σ τ = am_run d 21 2 ls (.int 0 :: st) σ τ := rr_iconst 0 dX2_findGaps_1 (by decide)
theorem r21_2 (d : Nat) (ls st : List Value) (σ : am_St) (τ : Int64) (k : Nat) (x : Int32) : am_run d 21 2 ls (.int x :: .ref k :: st) σ τ = am_pf k 2 2 x σ (fun σ => am_run d 21 5 ls st σ τ) := rr_putf dX2_findGaps_2 (by decide +kernel)
theorem r21_5 (d : Nat) (ls st : List Value) (σ : am_St) (τ : Int64) : am_run d 21 5 ls st σ τ = am_run d 21 6 ls (.int 1 :: st) σ τ := rr_iconst 1 dX2_findGaps_5 (by decide)
theorem r21_6 (d : Nat) (st : List Value) (σ : am_St) (τ : Int64) (x : Int32) (v0 v1 v2 v3 : Value) : am_run d 21 6 [v0, v1, v2, v3] (.int x :: st) σ τ = am_run d 21 7 [am_nl v0, .int x, v2, v3] st σ τ := rr_istore_n _ dX2_findGaps_6 (by decide) (by first | rfl | (by_cases h : v0.category = 2 <;> simp [am_set1, am_nl, h]))
theorem r21_7 (d : Nat) (ls st : List Value) (σ : am_St) (τ : Int64) : am_run d 21 7 ls st σ τ = am_run d 21 8 ls (.int 0 :: st) σ τ := rr_iconst 0 dX2_findGaps_7 (by decide)
theorem r21_8 (d : Nat) (st : List Value) (σ : am_St) (τ : Int64) (x : Int32) (v0 v1 v2 v3 : Value) : am_run d 21 8 [v0, v1, v2, v3] (.int x :: st) σ τ = am_run d 21 9 [v0, am_nl v1, .int x, v3] st σ τ := rr_istore_n _ dX2_findGaps_8 (by decide) (by first | rfl | (by_cases h : v1.category = 2 <;> simp [am_set1, am_nl, h]))
theorem r21_9 (d : Nat) (ls st : List Value) (σ : am_St) (τ : Int64) : am_run d 21 9 ls st σ τ = am_run d 21 10 ls (.int 0 :: st) σ τ := rr_iconst 0 dX2_findGaps_9 (by decide)
theorem r21_10 (d : Nat) (st : List Value) (σ : am_St) (τ : Int64) (x : Int32) (v0 v1 v2 v3 : Value) : am_run d 21 10 [v0, v1, v2, v3] (.int x :: st) σ τ = am_run d 21 11 [v0, v1, am_nl v2, .int x] st σ τ := rr_istore_n _ dX2_findGaps_10 (by decide) (by first | rfl | (by_cases h : v2.category = 2 <;> simp [am_set1, am_nl, h]))
theorem r21_11 (d : Nat) (st : List Value) (σ : am_St) (τ : Int64) (x : Int32) (v0 v1 v2 : Value) : am_run d 21 11 [v0, v1, v2, .int x] st σ τ = am_run d 21 12 [v0, v1, v2, .int x] (.int x :: st) σ τ := rr_iload_n dX2_findGaps_11 rfl
theorem r21_12 (d : Nat) (st : List Value) (σ : am_St) (τ : Int64) (x : Nat) (v1 v2 v3 : Value) : am_run d 21 12 [.ref x, v1, v2, v3] st σ τ = am_run d 21 13 [.ref x, v1, v2, v3] (.ref x :: st) σ τ := rr_aload_n dX2_findGaps_12 rfl
theorem r21_13 (d : Nat) (ls st : List Value) (σ : am_St) (τ : Int64) (k : Nat) : am_run d 21 13 ls (.ref k :: st) σ τ = am_gf k 2 7 σ τ (fun v => am_run d 21 16 ls (v :: st) σ τ) := rr_getf dX2_findGaps_13 (by decide +kernel)
theorem r21_16 (d : Nat) (ls st : List Value) (σ : am_St) (τ : Int64) (k : Nat) : am_run d 21 16 ls (.ref k :: st) σ τ = am_gf k 1 0 σ τ (fun v => am_run d 21 19 ls (v :: st) σ τ) := rr_getf dX2_findGaps_16 (by decide +kernel)
theorem r21_19 (d : Nat) (ls st : List Value) (σ : am_St) (τ : Int64) (x y : Int32) : am_run d 21 19 ls (.int y :: .int x :: st) σ τ = if y ≤ x then am_run d 21 108 ls st σ τ else am_run d 21 22 ls st σ τ := (rr_icmp 108 dX2_findGaps_19 (by decide)).trans am_sel
theorem r21_22 (d : Nat) (st : List Value) (σ : am_St) (τ : Int64) (x : Nat) (v1 v2 v3 : Value) : am_run d 21 22 [.ref x, v1, v2, v3] st σ τ = am_run d 21 23 [.ref x, v1, v2, v3] (.ref x :: st) σ τ := rr_aload_n dX2_findGaps_22 rfl
theorem r21_23 (d : Nat) (ls st : List Value) (σ : am_St) (τ : Int64) (k : Nat) : am_run d 21 23 ls (.ref k :: st) σ τ = am_gf k 2 7 σ τ (fun v => am_run d 21 26 ls (v :: st) σ τ) := rr_getf dX2_findGaps_23 (by decide +kernel)
theorem r21_26 (d : Nat) (ls st : List Value) (σ : am_St) (τ : Int64) (k : Nat) : am_run d 21 26 ls (.ref k :: st) σ τ = am_gf k 1 5 σ τ (fun v => am_run d 21 29 ls (v :: st) σ τ) := rr_getf dX2_findGaps_26 (by decide +kernel)
theorem r21_29 (d : Nat) (st : List Value) (σ : am_St) (τ : Int64) (x : Int32) (v0 v1 v2 : Value) : am_run d 21 29 [v0, v1, v2, .int x] st σ τ = am_run d 21 30 [v0, v1, v2, .int x] (.int x :: st) σ τ := rr_iload_n dX2_findGaps_29 rfl
theorem r21_30 (d : Nat) (ls st : List Value) (σ : am_St) (τ : Int64) (i : Int32) (k : Nat) : am_run d 21 30 ls (.int i :: .ref k :: st) σ τ = am_ai true k i (fun j => am_run d 21 31 ls (.int (σ k j) :: st) σ τ) := rr_bald dX2_findGaps_30
theorem r21_31 (d : Nat) (ls st : List Value) (σ : am_St) (τ : Int64) (x : Int32) : am_run d 21 31 ls (.int x :: st) σ τ = if x = 0 then am_run d 21 80 ls st σ τ else am_run d 21 34 ls st σ τ := (rr_if 80 dX2_findGaps_31 (by decide)).trans am_sel
theorem r21_34 (d : Nat) (st : List Value) (σ : am_St) (τ : Int64) (x : Nat) (v1 v2 v3 : Value) : am_run d 21 34 [.ref x, v1, v2, v3] st σ τ = am_run d 21 35 [.ref x, v1, v2, v3] (.ref x :: st) σ τ := rr_aload_n dX2_findGaps_34 rfl
theorem r21_35 (d : Nat) (ls st : List Value) (σ : am_St) (τ : Int64) (k : Nat) : am_run d 21 35 ls (.ref k :: st) σ τ = am_gf k 2 2 σ τ (fun v => am_run d 21 38 ls (v :: st) σ τ) := rr_getf dX2_findGaps_35 (by decide +kernel)
theorem r21_38 (d : Nat) (ls st : List Value) (σ : am_St) (τ : Int64) : am_run d 21 38 ls st σ τ = am_run d 21 39 ls (.int 3 :: st) σ τ := rr_iconst 3 dX2_findGaps_38 (by decide)
theorem r21_39 (d : Nat) (ls st : List Value) (σ : am_St) (τ : Int64) (x y : Int32) : am_run d 21 39 ls (.int y :: .int x :: st) σ τ = if y ≤ x then am_run d 21 80 ls st σ τ else am_run d 21 42 ls st σ τ := (rr_icmp 80 dX2_findGaps_39 (by decide)).trans am_sel
theorem r21_42 (d : Nat) (st : List Value) (σ : am_St) (τ : Int64) (x : Int32) (v0 v1 v3 : Value) : am_run d 21 42 [v0, v1, .int x, v3] st σ τ = am_run d 21 43 [v0, v1, .int x, v3] (.int x :: st) σ τ := rr_iload_n dX2_findGaps_42 rfl
theorem r21_43 (d : Nat) (ls st : List Value) (σ : am_St) (τ : Int64) (x : Int32) : am_run d 21 43 ls (.int x :: st) σ τ = if x ≤ 0 then am_run d 21 80 ls st σ τ else am_run d 21 46 ls st σ τ := (rr_if 80 dX2_findGaps_43 (by decide)).trans am_sel
theorem r21_46 (d : Nat) (st : List Value) (σ : am_St) (τ : Int64) (x : Nat) (v1 v2 v3 : Value) : am_run d 21 46 [.ref x, v1, v2, v3] st σ τ = am_run d 21 47 [.ref x, v1, v2, v3] (.ref x :: st) σ τ := rr_aload_n dX2_findGaps_46 rfl
theorem r21_47 (d : Nat) (ls st : List Value) (σ : am_St) (τ : Int64) (k : Nat) : am_run d 21 47 ls (.ref k :: st) σ τ = am_gf k 2 3 σ τ (fun v => am_run d 21 50 ls (v :: st) σ τ) := rr_getf dX2_findGaps_47 (by decide +kernel)
theorem r21_50 (d : Nat) (st : List Value) (σ : am_St) (τ : Int64) (x : Nat) (v1 v2 v3 : Value) : am_run d 21 50 [.ref x, v1, v2, v3] st σ τ = am_run d 21 51 [.ref x, v1, v2, v3] (.ref x :: st) σ τ := rr_aload_n dX2_findGaps_50 rfl
theorem r21_51 (d : Nat) (ls st : List Value) (σ : am_St) (τ : Int64) (k : Nat) : am_run d 21 51 ls (.ref k :: st) σ τ = am_gf k 2 2 σ τ (fun v => am_run d 21 54 ls (v :: st) σ τ) := rr_getf dX2_findGaps_51 (by decide +kernel)
theorem r21_54 (d : Nat) (st : List Value) (σ : am_St) (τ : Int64) (x : Int32) (v0 v1 v2 : Value) : am_run d 21 54 [v0, v1, v2, .int x] st σ τ = am_run d 21 55 [v0, v1, v2, .int x] (.int x :: st) σ τ := rr_iload_n dX2_findGaps_54 rfl
theorem r21_55 (d : Nat) (ls st : List Value) (σ : am_St) (τ : Int64) (x i : Int32) (k : Nat) : am_run d 21 55 ls (.int x :: .int i :: .ref k :: st) σ τ = am_ai false k i (fun j => am_run d 21 56 ls st (am_up σ k j x) τ) := rr_iast dX2_findGaps_55
theorem r21_56 (d : Nat) (st : List Value) (σ : am_St) (τ : Int64) (x : Nat) (v1 v2 v3 : Value) : am_run d 21 56 [.ref x, v1, v2, v3] st σ τ = am_run d 21 57 [.ref x, v1, v2, v3] (.ref x :: st) σ τ := rr_aload_n dX2_findGaps_56 rfl
theorem r21_57 (d : Nat) (ls st : List Value) (σ : am_St) (τ : Int64) (k : Nat) : am_run d 21 57 ls (.ref k :: st) σ τ = am_gf k 2 4 σ τ (fun v => am_run d 21 60 ls (v :: st) σ τ) := rr_getf dX2_findGaps_57 (by decide +kernel)
theorem r21_60 (d : Nat) (st : List Value) (σ : am_St) (τ : Int64) (x : Nat) (v1 v2 v3 : Value) : am_run d 21 60 [.ref x, v1, v2, v3] st σ τ = am_run d 21 61 [.ref x, v1, v2, v3] (.ref x :: st) σ τ := rr_aload_n dX2_findGaps_60 rfl
theorem r21_61 (d : Nat) (ls st : List Value) (σ : am_St) (τ : Int64) (k : Nat) : am_run d 21 61 ls (.ref k :: st) σ τ = am_gf k 2 2 σ τ (fun v => am_run d 21 64 ls (v :: st) σ τ) := rr_getf dX2_findGaps_61 (by decide +kernel)
theorem r21_64 (d : Nat) (st : List Value) (σ : am_St) (τ : Int64) (x : Int32) (v0 v1 v3 : Value) : am_run d 21 64 [v0, v1, .int x, v3] st σ τ = am_run d 21 65 [v0, v1, .int x, v3] (.int x :: st) σ τ := rr_iload_n dX2_findGaps_64 rfl
theorem r21_65 (d : Nat) (ls st : List Value) (σ : am_St) (τ : Int64) (x i : Int32) (k : Nat) : am_run d 21 65 ls (.int x :: .int i :: .ref k :: st) σ τ = am_ai false k i (fun j => am_run d 21 66 ls st (am_up σ k j x) τ) := rr_iast dX2_findGaps_65
theorem r21_66 (d : Nat) (st : List Value) (σ : am_St) (τ : Int64) (x : Nat) (v1 v2 v3 : Value) : am_run d 21 66 [.ref x, v1, v2, v3] st σ τ = am_run d 21 67 [.ref x, v1, v2, v3] (.ref x :: st) σ τ := rr_aload_n dX2_findGaps_66 rfl
theorem r21_67 (d : Nat) (ls st : List Value) (σ : am_St) (τ : Int64) (x : Nat) : am_run d 21 67 ls (.ref x :: st) σ τ = am_run d 21 68 ls (.ref x :: .ref x :: st) σ τ := rr_dup_r dX2_findGaps_67
theorem r21_67i (d : Nat) (ls st : List Value) (σ : am_St) (τ : Int64) (x : Int32) : am_run d 21 67 ls (.int x :: st) σ τ = am_run d 21 68 ls (.int x :: .int x :: st) σ τ := rr_dup_i dX2_findGaps_67
theorem r21_68 (d : Nat) (ls st : List Value) (σ : am_St) (τ : Int64) (k : Nat) : am_run d 21 68 ls (.ref k :: st) σ τ = am_gf k 2 2 σ τ (fun v => am_run d 21 71 ls (v :: st) σ τ) := rr_getf dX2_findGaps_68 (by decide +kernel)
theorem r21_71 (d : Nat) (ls st : List Value) (σ : am_St) (τ : Int64) : am_run d 21 71 ls st σ τ = am_run d 21 72 ls (.int 1 :: st) σ τ := rr_iconst 1 dX2_findGaps_71 (by decide)
theorem r21_72 (d : Nat) (ls st : List Value) (σ : am_St) (τ : Int64) (x y : Int32) : am_run d 21 72 ls (.int y :: .int x :: st) σ τ = am_run d 21 73 ls (.int (x + y) :: st) σ τ := rr_iadd dX2_findGaps_72
theorem r21_73 (d : Nat) (ls st : List Value) (σ : am_St) (τ : Int64) (k : Nat) (x : Int32) : am_run d 21 73 ls (.int x :: .ref k :: st) σ τ = am_pf k 2 2 x σ (fun σ => am_run d 21 76 ls st σ τ) := rr_putf dX2_findGaps_73 (by decide +kernel)
theorem r21_76 (d : Nat) (st : List Value) (σ : am_St) (τ : Int64) (x : Int32) (v0 v2 v3 : Value) : am_run d 21 76 [v0, .int x, v2, v3] st σ τ = am_run d 21 77 [v0, .int x, v2, v3] (.int x :: st) σ τ := rr_iload_n dX2_findGaps_76 rfl
theorem r21_77 (d : Nat) (st : List Value) (σ : am_St) (τ : Int64) (x : Int32) (v0 v1 v3 : Value) : am_run d 21 77 [v0, v1, .int x, v3] st σ τ = am_run d 21 78 [v0, v1, .int x, v3] (.int x :: st) σ τ := rr_iload_n dX2_findGaps_77 rfl
theorem r21_78 (d : Nat) (ls st : List Value) (σ : am_St) (τ : Int64) (x y : Int32) : am_run d 21 78 ls (.int y :: .int x :: st) σ τ = am_run d 21 79 ls (.int (x * y) :: st) σ τ := rr_imul dX2_findGaps_78
theorem r21_79 (d : Nat) (st : List Value) (σ : am_St) (τ : Int64) (x : Int32) (v0 v1 v2 v3 : Value) : am_run d 21 79 [v0, v1, v2, v3] (.int x :: st) σ τ = am_run d 21 80 [am_nl v0, .int x, v2, v3] st σ τ := rr_istore_n _ dX2_findGaps_79 (by decide) (by first | rfl | (by_cases h : v0.category = 2 <;> simp [am_set1, am_nl, h]))
theorem r21_80 (d : Nat) (st : List Value) (σ : am_St) (τ : Int64) (x : Nat) (v1 v2 v3 : Value) : am_run d 21 80 [.ref x, v1, v2, v3] st σ τ = am_run d 21 81 [.ref x, v1, v2, v3] (.ref x :: st) σ τ := rr_aload_n dX2_findGaps_80 rfl
theorem r21_81 (d : Nat) (ls st : List Value) (σ : am_St) (τ : Int64) (k : Nat) : am_run d 21 81 ls (.ref k :: st) σ τ = am_gf k 2 7 σ τ (fun v => am_run d 21 84 ls (v :: st) σ τ) := rr_getf dX2_findGaps_81 (by decide +kernel)
theorem r21_84 (d : Nat) (ls st : List Value) (σ : am_St) (τ : Int64) (k : Nat) : am_run d 21 84 ls (.ref k :: st) σ τ = am_gf k 1 2 σ τ (fun v => am_run d 21 87 ls (v :: st) σ τ) := rr_getf dX2_findGaps_84 (by decide +kernel)
theorem r21_87 (d : Nat) (st : List Value) (σ : am_St) (τ : Int64) (x : Int32) (v0 v1 v2 : Value) : am_run d 21 87 [v0, v1, v2, .int x] st σ τ = am_run d 21 88 [v0, v1, v2, .int x] (.int x :: st) σ τ := rr_iload_n dX2_findGaps_87 rfl
theorem r21_88 (d : Nat) (ls st : List Value) (σ : am_St) (τ : Int64) (i : Int32) (k : Nat) : am_run d 21 88 ls (.int i :: .ref k :: st) σ τ = am_ai false k i (fun j => am_run d 21 89 ls (.int (σ k j) :: st) σ τ) := rr_iald dX2_findGaps_88
theorem r21_89 (d : Nat) (ls st : List Value) (σ : am_St) (τ : Int64) (x : Int32) : am_run d 21 89 ls (.int x :: st) σ τ = if x = 0 then am_run d 21 92 ls st σ τ else am_run d 21 102 ls st σ τ := (rr_if 102 dX2_findGaps_89 (by decide)).trans am_seln
theorem r21_92 (d : Nat) (st : List Value) (σ : am_St) (τ : Int64) (x : Nat) (v1 v2 v3 : Value) : am_run d 21 92 [.ref x, v1, v2, v3] st σ τ = am_run d 21 93 [.ref x, v1, v2, v3] (.ref x :: st) σ τ := rr_aload_n dX2_findGaps_92 rfl
theorem r21_93 (d : Nat) (ls st : List Value) (σ : am_St) (τ : Int64) (k : Nat) : am_run d 21 93 ls (.ref k :: st) σ τ = am_gf k 2 5 σ τ (fun v => am_run d 21 96 ls (v :: st) σ τ) := rr_getf dX2_findGaps_93 (by decide +kernel)
theorem r21_96 (d : Nat) (st : List Value) (σ : am_St) (τ : Int64) (x : Int32) (v0 v1 v3 : Value) : am_run d 21 96 [v0, v1, .int x, v3] st σ τ = am_run d 21 97 [v0, v1, .int x, v3] (.int x :: st) σ τ := rr_iload_n dX2_findGaps_96 rfl
theorem r21_97 (d : Nat) (st : List Value) (σ : am_St) (τ : Int64) (x : Int32) (v0 v1 v2 : Value) : am_run d 21 97 [v0, v1, v2, .int x] st σ τ = am_run d 21 98 [v0, v1, v2, .int x] (.int x :: st) σ τ := rr_iload_n dX2_findGaps_97 rfl
theorem r21_98 (d : Nat) (ls st : List Value) (σ : am_St) (τ : Int64) (x i : Int32) (k : Nat) : am_run d 21 98 ls (.int x :: .int i :: .ref k :: st) σ τ = am_ai false k i (fun j => am_run d 21 99 ls st (am_up σ k j x) τ) := rr_iast dX2_findGaps_98
theorem r21_99 (d : Nat) (st : List Value) (σ : am_St) (τ : Int64) (x : Int32) (v0 v1 v3 : Value) : am_run d 21 99 [v0, v1, .int x, v3] st σ τ = am_run d 21 102 [v0, am_nl v1, .int (x + 1), v3] st σ τ := rr_iinc 1 _ dX2_findGaps_99 rfl (by decide) (by decide) (by first | rfl | (by_cases h : v1.category = 2 <;> simp [am_set1, am_nl, h]))
theorem r21_102 (d : Nat) (st : List Value) (σ : am_St) (τ : Int64) (x : Int32) (v0 v1 v2 : Value) : am_run d 21 102 [v0, v1, v2, .int x] st σ τ = am_run d 21 105 [v0, v1, am_nl v2, .int (x + 1)] st σ τ := rr_iinc 1 _ dX2_findGaps_102 rfl (by decide) (by decide) (by first | rfl | (by_cases h : v2.category = 2 <;> simp [am_set1, am_nl, h]))
theorem r21_105 (d : Nat) (ls st : List Value) (σ : am_St) (τ : Int64) : am_run d 21 105 ls st σ τ = am_run d 21 11 ls st σ τ := rr_goto 11 dX2_findGaps_105 (by decide)
theorem r21_108 (d : Nat) (st : List Value) (σ : am_St) (τ : Int64) (x : Int32) (v0 v2 v3 : Value) : am_run d 21 108 [v0, .int x, v2, v3] st σ τ = am_run d 21 109 [v0, .int x, v2, v3] (.int x :: st) σ τ := rr_iload_n dX2_findGaps_108 rfl
theorem r21_109 (d : Nat) (ls : List Value) (σ : am_St) (τ : Int64) (x : Int32) : am_run d 21 109 ls [.int x] σ τ = some (some (.int x), σ, τ) := rr_iret dX2_findGaps_109 rfl
theorem dX2_fillGaps_0 : decode (am_code 22) 0 = .ok (.iload_n 1, 1) := by decide +kernel
theorem dX2_fillGaps_1 : decode (am_code 22) 1 = .ok (.istore_n 2, 1) := by decide +kernel
theorem dX2_fillGaps_2 : decode (am_code 22) 2 = .ok (.iconst 0, 1) := by decide +kernel
theorem dX2_fillGaps_3 : decode (am_code 22) 3 = .ok (.istore_n 3, 1) := by decide +kernel
theorem dX2_fillGaps_4 : decode (am_code 22) 4 = .ok (.iload_n 3, 1) := by decide +kernel
theorem dX2_fillGaps_5 : decode (am_code 22) 5 = .ok (.aload_n 0, 1) := by decide +kernel
theorem dX2_fillGaps_6 : decode (am_code 22) 6 = .ok (.getfield 70, 3) := by decide +kernel
theorem dX2_fillGaps_9 : decode (am_code 22) 9 = .ok (.if_icmp .ge 46, 3) := by decide +kernel
theorem dX2_fillGaps_12 : decode (am_code 22) 12 = .ok (.iconst 1, 1) := by decide +kernel
theorem dX2_fillGaps_13 : decode (am_code 22) 13 = .ok (.aload_n 0, 1) := by decide +kernel
theorem dX2_fillGaps_14 : decode (am_code 22) 14 = .ok (.getfield 18, 3) := by decide +kernel
theorem dX2_fillGaps_17 : decode (am_code 22) 17 = .ok (.iload_n 3, 1) := by decide +kernel
theorem dX2_fillGaps_18 : decode (am_code 22) 18 = .ok (.iaload, 1) := by decide +kernel
theorem dX2_fillGaps_19 : decode (am_code 22) 19 = .ok (.invokestatic 80, 3) := by decide +kernel
theorem dX2_fillGaps_22 : decode (am_code 22) 22 = .ok (.istore 4, 2) := by decide +kernel
theorem dX2_fillGaps_24 : decode (am_code 22) 24 = .ok (.aload_n 0, 1) := by decide +kernel
theorem dX2_fillGaps_25 : decode (am_code 22) 25 = .ok (.getfield 24, 3) := by decide +kernel
theorem dX2_fillGaps_28 : decode (am_code 22) 28 = .ok (.aload_n 0, 1) := by decide +kernel
theorem dX2_fillGaps_29 : decode (am_code 22) 29 = .ok (.getfield 15, 3) := by decide +kernel
theorem dX2_fillGaps_32 : decode (am_code 22) 32 = .ok (.iload_n 3, 1) := by decide +kernel
theorem dX2_fillGaps_33 : decode (am_code 22) 33 = .ok (.iaload, 1) := by decide +kernel
theorem dX2_fillGaps_34 : decode (am_code 22) 34 = .ok (.aload_n 0, 1) := by decide +kernel
theorem dX2_fillGaps_35 : decode (am_code 22) 35 = .ok (.getfield 21, 3) := by decide +kernel
theorem dX2_fillGaps_38 : decode (am_code 22) 38 = .ok (.iload_n 2, 1) := by decide +kernel
theorem dX2_fillGaps_39 : decode (am_code 22) 39 = .ok (.iload 4, 2) := by decide +kernel
theorem dX2_fillGaps_41 : decode (am_code 22) 41 = .ok (.irem, 1) := by decide +kernel
theorem dX2_fillGaps_42 : decode (am_code 22) 42 = .ok (.iaload, 1) := by decide +kernel
theorem dX2_fillGaps_43 : decode (am_code 22) 43 = .ok (.iastore, 1) := by decide +kernel
theorem dX2_fillGaps_44 : decode (am_code 22) 44 = .ok (.iload_n 2, 1) := by decide +kernel
theorem dX2_fillGaps_45 : decode (am_code 22) 45 = .ok (.iload 4, 2) := by decide +kernel
theorem dX2_fillGaps_47 : decode (am_code 22) 47 = .ok (.idiv, 1) := by decide +kernel
theorem dX2_fillGaps_48 : decode (am_code 22) 48 = .ok (.istore_n 2, 1) := by decide +kernel
theorem dX2_fillGaps_49 : decode (am_code 22) 49 = .ok (.iinc 3 1, 3) := by decide +kernel
theorem dX2_fillGaps_52 : decode (am_code 22) 52 = .ok (.goto (-48), 3) := by decide +kernel
theorem dX2_fillGaps_55 : decode (am_code 22) 55 = .ok (.return_, 1) := by decide +kernel
theorem r22_0 (d : Nat) (st : List Value) (σ : am_St) (τ : Int64) (x : Int32) (v0 v2 v3 v4 : Value) : am_run d 22 0 [v0, .int x, v2, v3, v4] st σ τ = am_run d 22 1 [v0, .int x, v2, v3, v4] (.int x :: st) σ τ := rr_iload_n dX2_fillGaps_0 rfl
theorem r22_1 (d : Nat) (st : List Value) (σ : am_St) (τ : Int64) (x : Int32) (v0 v1 v2 v3 v4 : Value) : am_run d 22 1 [v0, v1, v2, v3, v4] (.int x :: st) σ τ = am_run d 22 2 [v0, am_nl v1, .int x, v3, v4] st σ τ := rr_istore_n _ dX2_fillGaps_1 (by decide) (by first | rfl | (by_cases h : v1.category = 2 <;> simp [am_set1, am_nl, h]))
theorem r22_2 (d : Nat) (ls st : List Value) (σ : am_St) (τ : Int64) : am_run d 22 2 ls st σ τ = am_run d 22 3 ls (.int 0 :: st) σ τ := rr_iconst 0 dX2_fillGaps_2 (by decide)
theorem r22_3 (d : Nat) (st : List Value) (σ : am_St) (τ : Int64) (x : Int32) (v0 v1 v2 v3 v4 : Value) : am_run d 22 3 [v0, v1, v2, v3, v4] (.int x :: st) σ τ = am_run d 22 4 [v0, v1, am_nl v2, .int x, v4] st σ τ := rr_istore_n _ dX2_fillGaps_3 (by decide) (by first | rfl | (by_cases h : v2.category = 2 <;> simp [am_set1, am_nl, h]))
theorem r22_4 (d : Nat) (st : List Value) (σ : am_St) (τ : Int64) (x : Int32) (v0 v1 v2 v4 : Value) : am_run d 22 4 [v0, v1, v2, .int x, v4] st σ τ = am_run d 22 5 [v0, v1, v2, .int x, v4] (.int x :: st) σ τ := rr_iload_n dX2_fillGaps_4 rfl
theorem r22_5 (d : Nat) (st : List Value) (σ : am_St) (τ : Int64) (x : Nat) (v1 v2 v3 v4 : Value) : am_run d 22 5 [.ref x, v1, v2, v3, v4] st σ τ = am_run d 22 6 [.ref x, v1, v2, v3, v4] (.ref x :: st) σ τ := rr_aload_n dX2_fillGaps_5 rfl
theorem r22_6 (d : Nat) (ls st : List Value) (σ : am_St) (τ : Int64) (k : Nat) : am_run d 22 6 ls (.ref k :: st) σ τ = am_gf k 2 2 σ τ (fun v => am_run d 22 9 ls (v :: st) σ τ) := rr_getf dX2_fillGaps_6 (by decide +kernel)
theorem r22_9 (d : Nat) (ls st : List Value) (σ : am_St) (τ : Int64) (x y : Int32) : am_run d 22 9 ls (.int y :: .int x :: st) σ τ = if y ≤ x then am_run d 22 55 ls st σ τ else am_run d 22 12 ls st σ τ := (rr_icmp 55 dX2_fillGaps_9 (by decide)).trans am_sel
theorem r22_12 (d : Nat) (ls st : List Value) (σ : am_St) (τ : Int64) : am_run d 22 12 ls st σ τ = am_run d 22 13 ls (.int 1 :: st) σ τ := rr_iconst 1 dX2_fillGaps_12 (by decide)
theorem r22_13 (d : Nat) (st : List Value) (σ : am_St) (τ : Int64) (x : Nat) (v1 v2 v3 v4 : Value) : am_run d 22 13 [.ref x, v1, v2, v3, v4] st σ τ = am_run d 22 14 [.ref x, v1, v2, v3, v4] (.ref x :: st) σ τ := rr_aload_n dX2_fillGaps_13 rfl
theorem r22_14 (d : Nat) (ls st : List Value) (σ : am_St) (τ : Int64) (k : Nat) : am_run d 22 14 ls (.ref k :: st) σ τ = am_gf k 2 4 σ τ (fun v => am_run d 22 17 ls (v :: st) σ τ) := rr_getf dX2_fillGaps_14 (by decide +kernel)
theorem r22_17 (d : Nat) (st : List Value) (σ : am_St) (τ : Int64) (x : Int32) (v0 v1 v2 v4 : Value) : am_run d 22 17 [v0, v1, v2, .int x, v4] st σ τ = am_run d 22 18 [v0, v1, v2, .int x, v4] (.int x :: st) σ τ := rr_iload_n dX2_fillGaps_17 rfl
theorem r22_18 (d : Nat) (ls st : List Value) (σ : am_St) (τ : Int64) (i : Int32) (k : Nat) : am_run d 22 18 ls (.int i :: .ref k :: st) σ τ = am_ai false k i (fun j => am_run d 22 19 ls (.int (σ k j) :: st) σ τ) := rr_iald dX2_fillGaps_18
theorem r22_19 (d : Nat) (ls st : List Value) (σ : am_St) (τ : Int64) (x y : Int32) (hc : am_cats st ≤ 8) : am_run d 22 19 ls (.int y :: .int x :: st) σ τ = am_run d 22 22 ls (.int (if x < y then y else x) :: st) σ τ := rr_max dX2_fillGaps_19 (by decide +kernel) hc
theorem r22_22 (d : Nat) (st : List Value) (σ : am_St) (τ : Int64) (x : Int32) (v0 v1 v2 v3 v4 : Value) : am_run d 22 22 [v0, v1, v2, v3, v4] (.int x :: st) σ τ = am_run d 22 24 [v0, v1, v2, am_nl v3, .int x] st σ τ := rr_istore _ dX2_fillGaps_22 (by decide) (by first | rfl | (by_cases h : v3.category = 2 <;> simp [am_set1, am_nl, h]))
theorem r22_24 (d : Nat) (st : List Value) (σ : am_St) (τ : Int64) (x : Nat) (v1 v2 v3 v4 : Value) : am_run d 22 24 [.ref x, v1, v2, v3, v4] st σ τ = am_run d 22 25 [.ref x, v1, v2, v3, v4] (.ref x :: st) σ τ := rr_aload_n dX2_fillGaps_24 rfl
theorem r22_25 (d : Nat) (ls st : List Value) (σ : am_St) (τ : Int64) (k : Nat) : am_run d 22 25 ls (.ref k :: st) σ τ = am_gf k 2 6 σ τ (fun v => am_run d 22 28 ls (v :: st) σ τ) := rr_getf dX2_fillGaps_25 (by decide +kernel)
theorem r22_28 (d : Nat) (st : List Value) (σ : am_St) (τ : Int64) (x : Nat) (v1 v2 v3 v4 : Value) : am_run d 22 28 [.ref x, v1, v2, v3, v4] st σ τ = am_run d 22 29 [.ref x, v1, v2, v3, v4] (.ref x :: st) σ τ := rr_aload_n dX2_fillGaps_28 rfl
theorem r22_29 (d : Nat) (ls st : List Value) (σ : am_St) (τ : Int64) (k : Nat) : am_run d 22 29 ls (.ref k :: st) σ τ = am_gf k 2 3 σ τ (fun v => am_run d 22 32 ls (v :: st) σ τ) := rr_getf dX2_fillGaps_29 (by decide +kernel)
theorem r22_32 (d : Nat) (st : List Value) (σ : am_St) (τ : Int64) (x : Int32) (v0 v1 v2 v4 : Value) : am_run d 22 32 [v0, v1, v2, .int x, v4] st σ τ = am_run d 22 33 [v0, v1, v2, .int x, v4] (.int x :: st) σ τ := rr_iload_n dX2_fillGaps_32 rfl
theorem r22_33 (d : Nat) (ls st : List Value) (σ : am_St) (τ : Int64) (i : Int32) (k : Nat) : am_run d 22 33 ls (.int i :: .ref k :: st) σ τ = am_ai false k i (fun j => am_run d 22 34 ls (.int (σ k j) :: st) σ τ) := rr_iald dX2_fillGaps_33
theorem r22_34 (d : Nat) (st : List Value) (σ : am_St) (τ : Int64) (x : Nat) (v1 v2 v3 v4 : Value) : am_run d 22 34 [.ref x, v1, v2, v3, v4] st σ τ = am_run d 22 35 [.ref x, v1, v2, v3, v4] (.ref x :: st) σ τ := rr_aload_n dX2_fillGaps_34 rfl
theorem r22_35 (d : Nat) (ls st : List Value) (σ : am_St) (τ : Int64) (k : Nat) : am_run d 22 35 ls (.ref k :: st) σ τ = am_gf k 2 5 σ τ (fun v => am_run d 22 38 ls (v :: st) σ τ) := rr_getf dX2_fillGaps_35 (by decide +kernel)
theorem r22_38 (d : Nat) (st : List Value) (σ : am_St) (τ : Int64) (x : Int32) (v0 v1 v3 v4 : Value) : am_run d 22 38 [v0, v1, .int x, v3, v4] st σ τ = am_run d 22 39 [v0, v1, .int x, v3, v4] (.int x :: st) σ τ := rr_iload_n dX2_fillGaps_38 rfl
theorem r22_39 (d : Nat) (st : List Value) (σ : am_St) (τ : Int64) (x : Int32) (v0 v1 v2 v3 : Value) : am_run d 22 39 [v0, v1, v2, v3, .int x] st σ τ = am_run d 22 41 [v0, v1, v2, v3, .int x] (.int x :: st) σ τ := rr_iload dX2_fillGaps_39 rfl
theorem r22_41 (d : Nat) (ls st : List Value) (σ : am_St) (τ : Int64) (x y : Int32) : am_run d 22 41 ls (.int y :: .int x :: st) σ τ = if y = 0 then none else am_run d 22 42 ls (.int (x - x / y * y) :: st) σ τ := rr_irem dX2_fillGaps_41
theorem r22_42 (d : Nat) (ls st : List Value) (σ : am_St) (τ : Int64) (i : Int32) (k : Nat) : am_run d 22 42 ls (.int i :: .ref k :: st) σ τ = am_ai false k i (fun j => am_run d 22 43 ls (.int (σ k j) :: st) σ τ) := rr_iald dX2_fillGaps_42
theorem r22_43 (d : Nat) (ls st : List Value) (σ : am_St) (τ : Int64) (x i : Int32) (k : Nat) : am_run d 22 43 ls (.int x :: .int i :: .ref k :: st) σ τ = am_ai false k i (fun j => am_run d 22 44 ls st (am_up σ k j x) τ) := rr_iast dX2_fillGaps_43
theorem r22_44 (d : Nat) (st : List Value) (σ : am_St) (τ : Int64) (x : Int32) (v0 v1 v3 v4 : Value) : am_run d 22 44 [v0, v1, .int x, v3, v4] st σ τ = am_run d 22 45 [v0, v1, .int x, v3, v4] (.int x :: st) σ τ := rr_iload_n dX2_fillGaps_44 rfl
theorem r22_45 (d : Nat) (st : List Value) (σ : am_St) (τ : Int64) (x : Int32) (v0 v1 v2 v3 : Value) : am_run d 22 45 [v0, v1, v2, v3, .int x] st σ τ = am_run d 22 47 [v0, v1, v2, v3, .int x] (.int x :: st) σ τ := rr_iload dX2_fillGaps_45 rfl
theorem r22_47 (d : Nat) (ls st : List Value) (σ : am_St) (τ : Int64) (x y : Int32) : am_run d 22 47 ls (.int y :: .int x :: st) σ τ = if y = 0 then none else am_run d 22 48 ls (.int (x / y) :: st) σ τ := rr_idiv dX2_fillGaps_47
theorem r22_48 (d : Nat) (st : List Value) (σ : am_St) (τ : Int64) (x : Int32) (v0 v1 v2 v3 v4 : Value) : am_run d 22 48 [v0, v1, v2, v3, v4] (.int x :: st) σ τ = am_run d 22 49 [v0, am_nl v1, .int x, v3, v4] st σ τ := rr_istore_n _ dX2_fillGaps_48 (by decide) (by first | rfl | (by_cases h : v1.category = 2 <;> simp [am_set1, am_nl, h]))
theorem r22_49 (d : Nat) (st : List Value) (σ : am_St) (τ : Int64) (x : Int32) (v0 v1 v2 v4 : Value) : am_run d 22 49 [v0, v1, v2, .int x, v4] st σ τ = am_run d 22 52 [v0, v1, am_nl v2, .int (x + 1), v4] st σ τ := rr_iinc 1 _ dX2_fillGaps_49 rfl (by decide) (by decide) (by first | rfl | (by_cases h : v2.category = 2 <;> simp [am_set1, am_nl, h]))
theorem r22_52 (d : Nat) (ls st : List Value) (σ : am_St) (τ : Int64) : am_run d 22 52 ls st σ τ = am_run d 22 4 ls st σ τ := rr_goto 4 dX2_fillGaps_52 (by decide)
theorem r22_55 (d : Nat) (ls : List Value) (σ : am_St) (τ : Int64) : am_run d 22 55 ls [] σ τ = some (none, σ, τ) := rr_vret dX2_fillGaps_55 rfl
theorem dX2_noteWay_0 : decode (am_code 23) 0 = .ok (.iconst 0, 1) := by decide +kernel
theorem dX2_noteWay_1 : decode (am_code 23) 1 = .ok (.istore_n 1, 1) := by decide +kernel
theorem dX2_noteWay_2 : decode (am_code 23) 2 = .ok (.iload_n 1, 1) := by decide +kernel
theorem dX2_noteWay_3 : decode (am_code 23) 3 = .ok (.aload_n 0, 1) := by decide +kernel
theorem dX2_noteWay_4 : decode (am_code 23) 4 = .ok (.getfield 27, 3) := by decide +kernel
theorem dX2_noteWay_7 : decode (am_code 23) 7 = .ok (.getfield 43, 3) := by decide +kernel
theorem dX2_noteWay_10 : decode (am_code 23) 10 = .ok (.if_icmp .ge 53, 3) := by decide +kernel
theorem dX2_noteWay_13 : decode (am_code 23) 13 = .ok (.aload_n 0, 1) := by decide +kernel
theorem dX2_noteWay_14 : decode (am_code 23) 14 = .ok (.getfield 39, 3) := by decide +kernel
theorem dX2_noteWay_17 : decode (am_code 23) 17 = .ok (.ifCond .ne 18, 3) := by decide +kernel
theorem dX2_noteWay_20 : decode (am_code 23) 20 = .ok (.aload_n 0, 1) := by decide +kernel
theorem dX2_noteWay_21 : decode (am_code 23) 21 = .ok (.getfield 9, 3) := by decide +kernel
theorem dX2_noteWay_24 : decode (am_code 23) 24 = .ok (.iload_n 1, 1) := by decide +kernel
theorem dX2_noteWay_25 : decode (am_code 23) 25 = .ok (.aload_n 0, 1) := by decide +kernel
theorem dX2_noteWay_26 : decode (am_code 23) 26 = .ok (.getfield 24, 3) := by decide +kernel
theorem dX2_noteWay_29 : decode (am_code 23) 29 = .ok (.iload_n 1, 1) := by decide +kernel
theorem dX2_noteWay_30 : decode (am_code 23) 30 = .ok (.iaload, 1) := by decide +kernel
theorem dX2_noteWay_31 : decode (am_code 23) 31 = .ok (.iastore, 1) := by decide +kernel
theorem dX2_noteWay_32 : decode (am_code 23) 32 = .ok (.goto 25, 3) := by decide +kernel
theorem dX2_noteWay_35 : decode (am_code 23) 35 = .ok (.aload_n 0, 1) := by decide +kernel
theorem dX2_noteWay_36 : decode (am_code 23) 36 = .ok (.getfield 9, 3) := by decide +kernel
theorem dX2_noteWay_39 : decode (am_code 23) 39 = .ok (.iload_n 1, 1) := by decide +kernel
theorem dX2_noteWay_40 : decode (am_code 23) 40 = .ok (.iaload, 1) := by decide +kernel
theorem dX2_noteWay_41 : decode (am_code 23) 41 = .ok (.aload_n 0, 1) := by decide +kernel
theorem dX2_noteWay_42 : decode (am_code 23) 42 = .ok (.getfield 24, 3) := by decide +kernel
theorem dX2_noteWay_45 : decode (am_code 23) 45 = .ok (.iload_n 1, 1) := by decide +kernel
theorem dX2_noteWay_46 : decode (am_code 23) 46 = .ok (.iaload, 1) := by decide +kernel
theorem dX2_noteWay_47 : decode (am_code 23) 47 = .ok (.if_icmp .eq 10, 3) := by decide +kernel
theorem dX2_noteWay_50 : decode (am_code 23) 50 = .ok (.aload_n 0, 1) := by decide +kernel
theorem dX2_noteWay_51 : decode (am_code 23) 51 = .ok (.getfield 9, 3) := by decide +kernel
theorem dX2_noteWay_54 : decode (am_code 23) 54 = .ok (.iload_n 1, 1) := by decide +kernel
theorem dX2_noteWay_55 : decode (am_code 23) 55 = .ok (.iconst (-1), 1) := by decide +kernel
theorem dX2_noteWay_56 : decode (am_code 23) 56 = .ok (.iastore, 1) := by decide +kernel
theorem dX2_noteWay_57 : decode (am_code 23) 57 = .ok (.iinc 1 1, 3) := by decide +kernel
theorem dX2_noteWay_60 : decode (am_code 23) 60 = .ok (.goto (-58), 3) := by decide +kernel
theorem dX2_noteWay_63 : decode (am_code 23) 63 = .ok (.aload_n 0, 1) := by decide +kernel
theorem dX2_noteWay_64 : decode (am_code 23) 64 = .ok (.dup, 1) := by decide +kernel
theorem dX2_noteWay_65 : decode (am_code 23) 65 = .ok (.getfield 39, 3) := by decide +kernel
theorem dX2_noteWay_68 : decode (am_code 23) 68 = .ok (.iconst 1, 1) := by decide +kernel
theorem dX2_noteWay_69 : decode (am_code 23) 69 = .ok (.iadd, 1) := by decide +kernel
theorem dX2_noteWay_70 : decode (am_code 23) 70 = .ok (.putfield 39, 3) := by decide +kernel
theorem dX2_noteWay_73 : decode (am_code 23) 73 = .ok (.return_, 1) := by decide +kernel
theorem r23_0 (d : Nat) (ls st : List Value) (σ : am_St) (τ : Int64) : am_run d 23 0 ls st σ τ = am_run d 23 1 ls (.int 0 :: st) σ τ := rr_iconst 0 dX2_noteWay_0 (by decide)
theorem r23_1 (d : Nat) (st : List Value) (σ : am_St) (τ : Int64) (x : Int32) (v0 v1 : Value) : am_run d 23 1 [v0, v1] (.int x :: st) σ τ = am_run d 23 2 [am_nl v0, .int x] st σ τ := rr_istore_n _ dX2_noteWay_1 (by decide) (by first | rfl | (by_cases h : v0.category = 2 <;> simp [am_set1, am_nl, h]))
theorem r23_2 (d : Nat) (st : List Value) (σ : am_St) (τ : Int64) (x : Int32) (v0 : Value) : am_run d 23 2 [v0, .int x] st σ τ = am_run d 23 3 [v0, .int x] (.int x :: st) σ τ := rr_iload_n dX2_noteWay_2 rfl
theorem r23_3 (d : Nat) (st : List Value) (σ : am_St) (τ : Int64) (x : Nat) (v1 : Value) : am_run d 23 3 [.ref x, v1] st σ τ = am_run d 23 4 [.ref x, v1] (.ref x :: st) σ τ := rr_aload_n dX2_noteWay_3 rfl
theorem r23_4 (d : Nat) (ls st : List Value) (σ : am_St) (τ : Int64) (k : Nat) : am_run d 23 4 ls (.ref k :: st) σ τ = am_gf k 2 7 σ τ (fun v => am_run d 23 7 ls (v :: st) σ τ) := rr_getf dX2_noteWay_4 (by decide +kernel)
theorem r23_7 (d : Nat) (ls st : List Value) (σ : am_St) (τ : Int64) (k : Nat) : am_run d 23 7 ls (.ref k :: st) σ τ = am_gf k 1 0 σ τ (fun v => am_run d 23 10 ls (v :: st) σ τ) := rr_getf dX2_noteWay_7 (by decide +kernel)
theorem r23_10 (d : Nat) (ls st : List Value) (σ : am_St) (τ : Int64) (x y : Int32) : am_run d 23 10 ls (.int y :: .int x :: st) σ τ = if y ≤ x then am_run d 23 63 ls st σ τ else am_run d 23 13 ls st σ τ := (rr_icmp 63 dX2_noteWay_10 (by decide)).trans am_sel
theorem r23_13 (d : Nat) (st : List Value) (σ : am_St) (τ : Int64) (x : Nat) (v1 : Value) : am_run d 23 13 [.ref x, v1] st σ τ = am_run d 23 14 [.ref x, v1] (.ref x :: st) σ τ := rr_aload_n dX2_noteWay_13 rfl
theorem r23_14 (d : Nat) (ls st : List Value) (σ : am_St) (τ : Int64) (k : Nat) : am_run d 23 14 ls (.ref k :: st) σ τ = am_gf k 2 0 σ τ (fun v => am_run d 23 17 ls (v :: st) σ τ) := rr_getf dX2_noteWay_14 (by decide +kernel)
theorem r23_17 (d : Nat) (ls st : List Value) (σ : am_St) (τ : Int64) (x : Int32) : am_run d 23 17 ls (.int x :: st) σ τ = if x = 0 then am_run d 23 20 ls st σ τ else am_run d 23 35 ls st σ τ := (rr_if 35 dX2_noteWay_17 (by decide)).trans am_seln
theorem r23_20 (d : Nat) (st : List Value) (σ : am_St) (τ : Int64) (x : Nat) (v1 : Value) : am_run d 23 20 [.ref x, v1] st σ τ = am_run d 23 21 [.ref x, v1] (.ref x :: st) σ τ := rr_aload_n dX2_noteWay_20 rfl
theorem r23_21 (d : Nat) (ls st : List Value) (σ : am_St) (τ : Int64) (k : Nat) : am_run d 23 21 ls (.ref k :: st) σ τ = am_gf k 2 1 σ τ (fun v => am_run d 23 24 ls (v :: st) σ τ) := rr_getf dX2_noteWay_21 (by decide +kernel)
theorem r23_24 (d : Nat) (st : List Value) (σ : am_St) (τ : Int64) (x : Int32) (v0 : Value) : am_run d 23 24 [v0, .int x] st σ τ = am_run d 23 25 [v0, .int x] (.int x :: st) σ τ := rr_iload_n dX2_noteWay_24 rfl
theorem r23_25 (d : Nat) (st : List Value) (σ : am_St) (τ : Int64) (x : Nat) (v1 : Value) : am_run d 23 25 [.ref x, v1] st σ τ = am_run d 23 26 [.ref x, v1] (.ref x :: st) σ τ := rr_aload_n dX2_noteWay_25 rfl
theorem r23_26 (d : Nat) (ls st : List Value) (σ : am_St) (τ : Int64) (k : Nat) : am_run d 23 26 ls (.ref k :: st) σ τ = am_gf k 2 6 σ τ (fun v => am_run d 23 29 ls (v :: st) σ τ) := rr_getf dX2_noteWay_26 (by decide +kernel)
theorem r23_29 (d : Nat) (st : List Value) (σ : am_St) (τ : Int64) (x : Int32) (v0 : Value) : am_run d 23 29 [v0, .int x] st σ τ = am_run d 23 30 [v0, .int x] (.int x :: st) σ τ := rr_iload_n dX2_noteWay_29 rfl
theorem r23_30 (d : Nat) (ls st : List Value) (σ : am_St) (τ : Int64) (i : Int32) (k : Nat) : am_run d 23 30 ls (.int i :: .ref k :: st) σ τ = am_ai false k i (fun j => am_run d 23 31 ls (.int (σ k j) :: st) σ τ) := rr_iald dX2_noteWay_30
theorem r23_31 (d : Nat) (ls st : List Value) (σ : am_St) (τ : Int64) (x i : Int32) (k : Nat) : am_run d 23 31 ls (.int x :: .int i :: .ref k :: st) σ τ = am_ai false k i (fun j => am_run d 23 32 ls st (am_up σ k j x) τ) := rr_iast dX2_noteWay_31
theorem r23_32 (d : Nat) (ls st : List Value) (σ : am_St) (τ : Int64) : am_run d 23 32 ls st σ τ = am_run d 23 57 ls st σ τ := rr_goto 57 dX2_noteWay_32 (by decide)
theorem r23_35 (d : Nat) (st : List Value) (σ : am_St) (τ : Int64) (x : Nat) (v1 : Value) : am_run d 23 35 [.ref x, v1] st σ τ = am_run d 23 36 [.ref x, v1] (.ref x :: st) σ τ := rr_aload_n dX2_noteWay_35 rfl
theorem r23_36 (d : Nat) (ls st : List Value) (σ : am_St) (τ : Int64) (k : Nat) : am_run d 23 36 ls (.ref k :: st) σ τ = am_gf k 2 1 σ τ (fun v => am_run d 23 39 ls (v :: st) σ τ) := rr_getf dX2_noteWay_36 (by decide +kernel)
theorem r23_39 (d : Nat) (st : List Value) (σ : am_St) (τ : Int64) (x : Int32) (v0 : Value) : am_run d 23 39 [v0, .int x] st σ τ = am_run d 23 40 [v0, .int x] (.int x :: st) σ τ := rr_iload_n dX2_noteWay_39 rfl
theorem r23_40 (d : Nat) (ls st : List Value) (σ : am_St) (τ : Int64) (i : Int32) (k : Nat) : am_run d 23 40 ls (.int i :: .ref k :: st) σ τ = am_ai false k i (fun j => am_run d 23 41 ls (.int (σ k j) :: st) σ τ) := rr_iald dX2_noteWay_40
theorem r23_41 (d : Nat) (st : List Value) (σ : am_St) (τ : Int64) (x : Nat) (v1 : Value) : am_run d 23 41 [.ref x, v1] st σ τ = am_run d 23 42 [.ref x, v1] (.ref x :: st) σ τ := rr_aload_n dX2_noteWay_41 rfl
theorem r23_42 (d : Nat) (ls st : List Value) (σ : am_St) (τ : Int64) (k : Nat) : am_run d 23 42 ls (.ref k :: st) σ τ = am_gf k 2 6 σ τ (fun v => am_run d 23 45 ls (v :: st) σ τ) := rr_getf dX2_noteWay_42 (by decide +kernel)
theorem r23_45 (d : Nat) (st : List Value) (σ : am_St) (τ : Int64) (x : Int32) (v0 : Value) : am_run d 23 45 [v0, .int x] st σ τ = am_run d 23 46 [v0, .int x] (.int x :: st) σ τ := rr_iload_n dX2_noteWay_45 rfl
theorem r23_46 (d : Nat) (ls st : List Value) (σ : am_St) (τ : Int64) (i : Int32) (k : Nat) : am_run d 23 46 ls (.int i :: .ref k :: st) σ τ = am_ai false k i (fun j => am_run d 23 47 ls (.int (σ k j) :: st) σ τ) := rr_iald dX2_noteWay_46
theorem r23_47 (d : Nat) (ls st : List Value) (σ : am_St) (τ : Int64) (x y : Int32) : am_run d 23 47 ls (.int y :: .int x :: st) σ τ = if x = y then am_run d 23 57 ls st σ τ else am_run d 23 50 ls st σ τ := (rr_icmp 57 dX2_noteWay_47 (by decide)).trans am_sel
theorem r23_50 (d : Nat) (st : List Value) (σ : am_St) (τ : Int64) (x : Nat) (v1 : Value) : am_run d 23 50 [.ref x, v1] st σ τ = am_run d 23 51 [.ref x, v1] (.ref x :: st) σ τ := rr_aload_n dX2_noteWay_50 rfl
theorem r23_51 (d : Nat) (ls st : List Value) (σ : am_St) (τ : Int64) (k : Nat) : am_run d 23 51 ls (.ref k :: st) σ τ = am_gf k 2 1 σ τ (fun v => am_run d 23 54 ls (v :: st) σ τ) := rr_getf dX2_noteWay_51 (by decide +kernel)
theorem r23_54 (d : Nat) (st : List Value) (σ : am_St) (τ : Int64) (x : Int32) (v0 : Value) : am_run d 23 54 [v0, .int x] st σ τ = am_run d 23 55 [v0, .int x] (.int x :: st) σ τ := rr_iload_n dX2_noteWay_54 rfl
theorem r23_55 (d : Nat) (ls st : List Value) (σ : am_St) (τ : Int64) : am_run d 23 55 ls st σ τ = am_run d 23 56 ls (.int (-1) :: st) σ τ := rr_iconst (-1) dX2_noteWay_55 (by decide)
theorem r23_56 (d : Nat) (ls st : List Value) (σ : am_St) (τ : Int64) (x i : Int32) (k : Nat) : am_run d 23 56 ls (.int x :: .int i :: .ref k :: st) σ τ = am_ai false k i (fun j => am_run d 23 57 ls st (am_up σ k j x) τ) := rr_iast dX2_noteWay_56
theorem r23_57 (d : Nat) (st : List Value) (σ : am_St) (τ : Int64) (x : Int32) (v0 : Value) : am_run d 23 57 [v0, .int x] st σ τ = am_run d 23 60 [am_nl v0, .int (x + 1)] st σ τ := rr_iinc 1 _ dX2_noteWay_57 rfl (by decide) (by decide) (by first | rfl | (by_cases h : v0.category = 2 <;> simp [am_set1, am_nl, h]))
theorem r23_60 (d : Nat) (ls st : List Value) (σ : am_St) (τ : Int64) : am_run d 23 60 ls st σ τ = am_run d 23 2 ls st σ τ := rr_goto 2 dX2_noteWay_60 (by decide)
theorem r23_63 (d : Nat) (st : List Value) (σ : am_St) (τ : Int64) (x : Nat) (v1 : Value) : am_run d 23 63 [.ref x, v1] st σ τ = am_run d 23 64 [.ref x, v1] (.ref x :: st) σ τ := rr_aload_n dX2_noteWay_63 rfl
theorem r23_64 (d : Nat) (ls st : List Value) (σ : am_St) (τ : Int64) (x : Nat) : am_run d 23 64 ls (.ref x :: st) σ τ = am_run d 23 65 ls (.ref x :: .ref x :: st) σ τ := rr_dup_r dX2_noteWay_64
theorem r23_64i (d : Nat) (ls st : List Value) (σ : am_St) (τ : Int64) (x : Int32) : am_run d 23 64 ls (.int x :: st) σ τ = am_run d 23 65 ls (.int x :: .int x :: st) σ τ := rr_dup_i dX2_noteWay_64
theorem r23_65 (d : Nat) (ls st : List Value) (σ : am_St) (τ : Int64) (k : Nat) : am_run d 23 65 ls (.ref k :: st) σ τ = am_gf k 2 0 σ τ (fun v => am_run d 23 68 ls (v :: st) σ τ) := rr_getf dX2_noteWay_65 (by decide +kernel)
theorem r23_68 (d : Nat) (ls st : List Value) (σ : am_St) (τ : Int64) : am_run d 23 68 ls st σ τ = am_run d 23 69 ls (.int 1 :: st) σ τ := rr_iconst 1 dX2_noteWay_68 (by decide)
theorem r23_69 (d : Nat) (ls st : List Value) (σ : am_St) (τ : Int64) (x y : Int32) : am_run d 23 69 ls (.int y :: .int x :: st) σ τ = am_run d 23 70 ls (.int (x + y) :: st) σ τ := rr_iadd dX2_noteWay_69
theorem r23_70 (d : Nat) (ls st : List Value) (σ : am_St) (τ : Int64) (k : Nat) (x : Int32) : am_run d 23 70 ls (.int x :: .ref k :: st) σ τ = am_pf k 2 0 x σ (fun σ => am_run d 23 73 ls st σ τ) := rr_putf dX2_noteWay_70 (by decide +kernel)
theorem r23_73 (d : Nat) (ls : List Value) (σ : am_St) (τ : Int64) : am_run d 23 73 ls [] σ τ = some (none, σ, τ) := rr_vret dX2_noteWay_73 rfl
