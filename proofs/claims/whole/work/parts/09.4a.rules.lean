theorem dX9_letters_0 : decode (am_code 51) 0 = .ok (.iconst 0, 1) := by decide +kernel
theorem dX9_letters_1 : decode (am_code 51) 1 = .ok (.istore_n 3, 1) := by decide +kernel
theorem dX9_letters_2 : decode (am_code 51) 2 = .ok (.iconst 0, 1) := by decide +kernel
theorem dX9_letters_3 : decode (am_code 51) 3 = .ok (.istore 4, 2) := by decide +kernel
theorem dX9_letters_5 : decode (am_code 51) 5 = .ok (.iconst 0, 1) := by decide +kernel
theorem dX9_letters_6 : decode (am_code 51) 6 = .ok (.istore 5, 2) := by decide +kernel
theorem dX9_letters_8 : decode (am_code 51) 8 = .ok (.iload 5, 2) := by decide +kernel
theorem dX9_letters_10 : decode (am_code 51) 10 = .ok (.bipush 8, 2) := by decide +kernel
theorem dX9_letters_12 : decode (am_code 51) 12 = .ok (.if_icmp .ge 46, 3) := by decide +kernel
theorem dX9_letters_15 : decode (am_code 51) 15 = .ok (.lload_n 1, 1) := by decide +kernel
theorem dX9_letters_16 : decode (am_code 51) 16 = .ok (.iload 5, 2) := by decide +kernel
theorem dX9_letters_18 : decode (am_code 51) 18 = .ok (.invokestatic 78, 3) := by decide +kernel
theorem dX9_letters_21 : decode (am_code 51) 21 = .ok (.istore 6, 2) := by decide +kernel
theorem dX9_letters_23 : decode (am_code 51) 23 = .ok (.iload 6, 2) := by decide +kernel
theorem dX9_letters_25 : decode (am_code 51) 25 = .ok (.ifCond .ne 9, 3) := by decide +kernel
theorem dX9_letters_28 : decode (am_code 51) 28 = .ok (.iconst 1, 1) := by decide +kernel
theorem dX9_letters_29 : decode (am_code 51) 29 = .ok (.istore 4, 2) := by decide +kernel
theorem dX9_letters_31 : decode (am_code 51) 31 = .ok (.goto 21, 3) := by decide +kernel
theorem dX9_letters_34 : decode (am_code 51) 34 = .ok (.iload 4, 2) := by decide +kernel
theorem dX9_letters_36 : decode (am_code 51) 36 = .ok (.ifCond .ne 10, 3) := by decide +kernel
theorem dX9_letters_39 : decode (am_code 51) 39 = .ok (.iload 6, 2) := by decide +kernel
theorem dX9_letters_41 : decode (am_code 51) 41 = .ok (.bipush 126, 2) := by decide +kernel
theorem dX9_letters_43 : decode (am_code 51) 43 = .ok (.if_icmp .le 6, 3) := by decide +kernel
theorem dX9_letters_46 : decode (am_code 51) 46 = .ok (.bipush (-102), 2) := by decide +kernel
theorem dX9_letters_48 : decode (am_code 51) 48 = .ok (.ireturn, 1) := by decide +kernel
theorem dX9_letters_49 : decode (am_code 51) 49 = .ok (.iinc 3 1, 3) := by decide +kernel
theorem dX9_letters_52 : decode (am_code 51) 52 = .ok (.iinc 5 1, 3) := by decide +kernel
theorem dX9_letters_55 : decode (am_code 51) 55 = .ok (.goto (-47), 3) := by decide +kernel
theorem dX9_letters_58 : decode (am_code 51) 58 = .ok (.aload_n 0, 1) := by decide +kernel
theorem dX9_letters_59 : decode (am_code 51) 59 = .ok (.getfield 10, 3) := by decide +kernel
theorem dX9_letters_62 : decode (am_code 51) 62 = .ok (.getfield 82, 3) := by decide +kernel
theorem dX9_letters_65 : decode (am_code 51) 65 = .ok (.iload_n 3, 1) := by decide +kernel
theorem dX9_letters_66 : decode (am_code 51) 66 = .ok (.iadd, 1) := by decide +kernel
theorem dX9_letters_67 : decode (am_code 51) 67 = .ok (.bipush 16, 2) := by decide +kernel
theorem dX9_letters_69 : decode (am_code 51) 69 = .ok (.if_icmp .le 6, 3) := by decide +kernel
theorem dX9_letters_72 : decode (am_code 51) 72 = .ok (.bipush (-104), 2) := by decide +kernel
theorem dX9_letters_74 : decode (am_code 51) 74 = .ok (.ireturn, 1) := by decide +kernel
theorem dX9_letters_75 : decode (am_code 51) 75 = .ok (.iconst 0, 1) := by decide +kernel
theorem dX9_letters_76 : decode (am_code 51) 76 = .ok (.istore 5, 2) := by decide +kernel
theorem dX9_letters_78 : decode (am_code 51) 78 = .ok (.iload 5, 2) := by decide +kernel
theorem dX9_letters_80 : decode (am_code 51) 80 = .ok (.iload_n 3, 1) := by decide +kernel
theorem dX9_letters_81 : decode (am_code 51) 81 = .ok (.if_icmp .ge 22, 3) := by decide +kernel
theorem dX9_letters_84 : decode (am_code 51) 84 = .ok (.aload_n 0, 1) := by decide +kernel
theorem dX9_letters_85 : decode (am_code 51) 85 = .ok (.getfield 10, 3) := by decide +kernel
theorem dX9_letters_88 : decode (am_code 51) 88 = .ok (.lload_n 1, 1) := by decide +kernel
theorem dX9_letters_89 : decode (am_code 51) 89 = .ok (.iload 5, 2) := by decide +kernel
theorem dX9_letters_91 : decode (am_code 51) 91 = .ok (.invokestatic 78, 3) := by decide +kernel
theorem dX9_letters_94 : decode (am_code 51) 94 = .ok (.invokevirtual 86, 3) := by decide +kernel
theorem dX9_letters_97 : decode (am_code 51) 97 = .ok (.iinc 5 1, 3) := by decide +kernel
theorem dX9_letters_100 : decode (am_code 51) 100 = .ok (.goto (-22), 3) := by decide +kernel
theorem dX9_letters_103 : decode (am_code 51) 103 = .ok (.aload_n 0, 1) := by decide +kernel
theorem dX9_letters_104 : decode (am_code 51) 104 = .ok (.getfield 10, 3) := by decide +kernel
theorem dX9_letters_107 : decode (am_code 51) 107 = .ok (.getfield 82, 3) := by decide +kernel
theorem dX9_letters_110 : decode (am_code 51) 110 = .ok (.ireturn, 1) := by decide +kernel
theorem r51_0 (d : Nat) (ls st : List Value) (σ : am_St) (τ : Int64) : am_run d 51 0 ls st σ τ = am_run d 51 1 ls (.int 0 :: st) σ τ := rr_iconst 0 dX9_letters_0 (by decide)
theorem r51_1 (d : Nat) (st : List Value) (σ : am_St) (τ : Int64) (x : Int32) (v0 v1 v2 v3 v4 v5 v6 : Value) : am_run d 51 1 [v0, v1, v2, v3, v4, v5, v6] (.int x :: st) σ τ = am_run d 51 2 [v0, v1, am_nl v2, .int x, v4, v5, v6] st σ τ := rr_istore_n _ dX9_letters_1 (by decide) (by first | rfl | (by_cases h : v2.category = 2 <;> simp [am_set1, am_nl, h]))
theorem r51_2 (d : Nat) (ls st : List Value) (σ : am_St) (τ : Int64) : am_run d 51 2 ls st σ τ = am_run d 51 3 ls (.int 0 :: st) σ τ := rr_iconst 0 dX9_letters_2 (by decide)
theorem r51_3 (d : Nat) (st : List Value) (σ : am_St) (τ : Int64) (x : Int32) (v0 v1 v2 v3 v4 v5 v6 : Value) : am_run d 51 3 [v0, v1, v2, v3, v4, v5, v6] (.int x :: st) σ τ = am_run d 51 5 [v0, v1, v2, am_nl v3, .int x, v5, v6] st σ τ := rr_istore _ dX9_letters_3 (by decide) (by first | rfl | (by_cases h : v3.category = 2 <;> simp [am_set1, am_nl, h]))
theorem r51_5 (d : Nat) (ls st : List Value) (σ : am_St) (τ : Int64) : am_run d 51 5 ls st σ τ = am_run d 51 6 ls (.int 0 :: st) σ τ := rr_iconst 0 dX9_letters_5 (by decide)
theorem r51_6 (d : Nat) (st : List Value) (σ : am_St) (τ : Int64) (x : Int32) (v0 v1 v2 v3 v4 v5 v6 : Value) : am_run d 51 6 [v0, v1, v2, v3, v4, v5, v6] (.int x :: st) σ τ = am_run d 51 8 [v0, v1, v2, v3, am_nl v4, .int x, v6] st σ τ := rr_istore _ dX9_letters_6 (by decide) (by first | rfl | (by_cases h : v4.category = 2 <;> simp [am_set1, am_nl, h]))
theorem r51_8 (d : Nat) (st : List Value) (σ : am_St) (τ : Int64) (x : Int32) (v0 v1 v2 v3 v4 v6 : Value) : am_run d 51 8 [v0, v1, v2, v3, v4, .int x, v6] st σ τ = am_run d 51 10 [v0, v1, v2, v3, v4, .int x, v6] (.int x :: st) σ τ := rr_iload dX9_letters_8 rfl
theorem r51_10 (d : Nat) (ls st : List Value) (σ : am_St) (τ : Int64) : am_run d 51 10 ls st σ τ = am_run d 51 12 ls (.int 8 :: st) σ τ := rr_bipush 8 dX9_letters_10 (by decide)
theorem r51_12 (d : Nat) (ls st : List Value) (σ : am_St) (τ : Int64) (x y : Int32) : am_run d 51 12 ls (.int y :: .int x :: st) σ τ = if y ≤ x then am_run d 51 58 ls st σ τ else am_run d 51 15 ls st σ τ := (rr_icmp 58 dX9_letters_12 (by decide)).trans am_sel
theorem r51_15 (d : Nat) (st : List Value) (σ : am_St) (τ : Int64) (x : Int64) (v0 v2 v3 v4 v5 v6 : Value) : am_run d 51 15 [v0, .long x, v2, v3, v4, v5, v6] st σ τ = am_run d 51 16 [v0, .long x, v2, v3, v4, v5, v6] (.long x :: st) σ τ := rr_lload_n dX9_letters_15 rfl
theorem r51_16 (d : Nat) (st : List Value) (σ : am_St) (τ : Int64) (x : Int32) (v0 v1 v2 v3 v4 v6 : Value) : am_run d 51 16 [v0, v1, v2, v3, v4, .int x, v6] st σ τ = am_run d 51 18 [v0, v1, v2, v3, v4, .int x, v6] (.int x :: st) σ τ := rr_iload dX9_letters_16 rfl
theorem r51_18 (d : Nat) (ls st : List Value) (σ : am_St) (τ : Int64) (a0 : Int64) (a1 : Int32) (hc : am_cats st ≤ 8) : am_run (d + 1) 51 18 ls (.int a1 :: .long a0 :: st) σ τ = (am_call d 79 [.long a0, .int a1] σ τ).bind (fun r => am_run (d + 1) 51 21 ls (r.1.toList ++ st) r.2.1 r.2.2) := rr_invs [.long a0, .int a1] dX9_letters_18 (by decide +kernel) (by decide +kernel) (by decide) rfl (Nat.le_of_ble_eq_true rfl) hc
theorem r51_21 (d : Nat) (st : List Value) (σ : am_St) (τ : Int64) (x : Int32) (v0 v1 v2 v3 v4 v5 v6 : Value) : am_run d 51 21 [v0, v1, v2, v3, v4, v5, v6] (.int x :: st) σ τ = am_run d 51 23 [v0, v1, v2, v3, v4, am_nl v5, .int x] st σ τ := rr_istore _ dX9_letters_21 (by decide) (by first | rfl | (by_cases h : v5.category = 2 <;> simp [am_set1, am_nl, h]))
theorem r51_23 (d : Nat) (st : List Value) (σ : am_St) (τ : Int64) (x : Int32) (v0 v1 v2 v3 v4 v5 : Value) : am_run d 51 23 [v0, v1, v2, v3, v4, v5, .int x] st σ τ = am_run d 51 25 [v0, v1, v2, v3, v4, v5, .int x] (.int x :: st) σ τ := rr_iload dX9_letters_23 rfl
theorem r51_25 (d : Nat) (ls st : List Value) (σ : am_St) (τ : Int64) (x : Int32) : am_run d 51 25 ls (.int x :: st) σ τ = if x = 0 then am_run d 51 28 ls st σ τ else am_run d 51 34 ls st σ τ := (rr_if 34 dX9_letters_25 (by decide)).trans am_seln
theorem r51_28 (d : Nat) (ls st : List Value) (σ : am_St) (τ : Int64) : am_run d 51 28 ls st σ τ = am_run d 51 29 ls (.int 1 :: st) σ τ := rr_iconst 1 dX9_letters_28 (by decide)
theorem r51_29 (d : Nat) (st : List Value) (σ : am_St) (τ : Int64) (x : Int32) (v0 v1 v2 v3 v4 v5 v6 : Value) : am_run d 51 29 [v0, v1, v2, v3, v4, v5, v6] (.int x :: st) σ τ = am_run d 51 31 [v0, v1, v2, am_nl v3, .int x, v5, v6] st σ τ := rr_istore _ dX9_letters_29 (by decide) (by first | rfl | (by_cases h : v3.category = 2 <;> simp [am_set1, am_nl, h]))
theorem r51_31 (d : Nat) (ls st : List Value) (σ : am_St) (τ : Int64) : am_run d 51 31 ls st σ τ = am_run d 51 52 ls st σ τ := rr_goto 52 dX9_letters_31 (by decide)
theorem r51_34 (d : Nat) (st : List Value) (σ : am_St) (τ : Int64) (x : Int32) (v0 v1 v2 v3 v5 v6 : Value) : am_run d 51 34 [v0, v1, v2, v3, .int x, v5, v6] st σ τ = am_run d 51 36 [v0, v1, v2, v3, .int x, v5, v6] (.int x :: st) σ τ := rr_iload dX9_letters_34 rfl
theorem r51_36 (d : Nat) (ls st : List Value) (σ : am_St) (τ : Int64) (x : Int32) : am_run d 51 36 ls (.int x :: st) σ τ = if x = 0 then am_run d 51 39 ls st σ τ else am_run d 51 46 ls st σ τ := (rr_if 46 dX9_letters_36 (by decide)).trans am_seln
theorem r51_39 (d : Nat) (st : List Value) (σ : am_St) (τ : Int64) (x : Int32) (v0 v1 v2 v3 v4 v5 : Value) : am_run d 51 39 [v0, v1, v2, v3, v4, v5, .int x] st σ τ = am_run d 51 41 [v0, v1, v2, v3, v4, v5, .int x] (.int x :: st) σ τ := rr_iload dX9_letters_39 rfl
theorem r51_41 (d : Nat) (ls st : List Value) (σ : am_St) (τ : Int64) : am_run d 51 41 ls st σ τ = am_run d 51 43 ls (.int 126 :: st) σ τ := rr_bipush 126 dX9_letters_41 (by decide)
theorem r51_43 (d : Nat) (ls st : List Value) (σ : am_St) (τ : Int64) (x y : Int32) : am_run d 51 43 ls (.int y :: .int x :: st) σ τ = if x ≤ y then am_run d 51 49 ls st σ τ else am_run d 51 46 ls st σ τ := (rr_icmp 49 dX9_letters_43 (by decide)).trans am_sel
theorem r51_46 (d : Nat) (ls st : List Value) (σ : am_St) (τ : Int64) : am_run d 51 46 ls st σ τ = am_run d 51 48 ls (.int (-102) :: st) σ τ := rr_bipush (-102) dX9_letters_46 (by decide)
theorem r51_48 (d : Nat) (ls : List Value) (σ : am_St) (τ : Int64) (x : Int32) : am_run d 51 48 ls [.int x] σ τ = some (some (.int x), σ, τ) := rr_iret dX9_letters_48 rfl
theorem r51_49 (d : Nat) (st : List Value) (σ : am_St) (τ : Int64) (x : Int32) (v0 v1 v2 v4 v5 v6 : Value) : am_run d 51 49 [v0, v1, v2, .int x, v4, v5, v6] st σ τ = am_run d 51 52 [v0, v1, am_nl v2, .int (x + 1), v4, v5, v6] st σ τ := rr_iinc 1 _ dX9_letters_49 rfl (by decide) (by decide) (by first | rfl | (by_cases h : v2.category = 2 <;> simp [am_set1, am_nl, h]))
theorem r51_52 (d : Nat) (st : List Value) (σ : am_St) (τ : Int64) (x : Int32) (v0 v1 v2 v3 v4 v6 : Value) : am_run d 51 52 [v0, v1, v2, v3, v4, .int x, v6] st σ τ = am_run d 51 55 [v0, v1, v2, v3, am_nl v4, .int (x + 1), v6] st σ τ := rr_iinc 1 _ dX9_letters_52 rfl (by decide) (by decide) (by first | rfl | (by_cases h : v4.category = 2 <;> simp [am_set1, am_nl, h]))
theorem r51_55 (d : Nat) (ls st : List Value) (σ : am_St) (τ : Int64) : am_run d 51 55 ls st σ τ = am_run d 51 8 ls st σ τ := rr_goto 8 dX9_letters_55 (by decide)
theorem r51_58 (d : Nat) (st : List Value) (σ : am_St) (τ : Int64) (x : Nat) (v1 v2 v3 v4 v5 v6 : Value) : am_run d 51 58 [.ref x, v1, v2, v3, v4, v5, v6] st σ τ = am_run d 51 59 [.ref x, v1, v2, v3, v4, v5, v6] (.ref x :: st) σ τ := rr_aload_n dX9_letters_58 rfl
theorem r51_59 (d : Nat) (ls st : List Value) (σ : am_St) (τ : Int64) (k : Nat) : am_run d 51 59 ls (.ref k :: st) σ τ = am_gf k 9 0 σ τ (fun v => am_run d 51 62 ls (v :: st) σ τ) := rr_getf dX9_letters_59 (by decide +kernel)
theorem r51_62 (d : Nat) (ls st : List Value) (σ : am_St) (τ : Int64) (k : Nat) : am_run d 51 62 ls (.ref k :: st) σ τ = am_gf k 8 1 σ τ (fun v => am_run d 51 65 ls (v :: st) σ τ) := rr_getf dX9_letters_62 (by decide +kernel)
theorem r51_65 (d : Nat) (st : List Value) (σ : am_St) (τ : Int64) (x : Int32) (v0 v1 v2 v4 v5 v6 : Value) : am_run d 51 65 [v0, v1, v2, .int x, v4, v5, v6] st σ τ = am_run d 51 66 [v0, v1, v2, .int x, v4, v5, v6] (.int x :: st) σ τ := rr_iload_n dX9_letters_65 rfl
theorem r51_66 (d : Nat) (ls st : List Value) (σ : am_St) (τ : Int64) (x y : Int32) : am_run d 51 66 ls (.int y :: .int x :: st) σ τ = am_run d 51 67 ls (.int (x + y) :: st) σ τ := rr_iadd dX9_letters_66
theorem r51_67 (d : Nat) (ls st : List Value) (σ : am_St) (τ : Int64) : am_run d 51 67 ls st σ τ = am_run d 51 69 ls (.int 16 :: st) σ τ := rr_bipush 16 dX9_letters_67 (by decide)
theorem r51_69 (d : Nat) (ls st : List Value) (σ : am_St) (τ : Int64) (x y : Int32) : am_run d 51 69 ls (.int y :: .int x :: st) σ τ = if x ≤ y then am_run d 51 75 ls st σ τ else am_run d 51 72 ls st σ τ := (rr_icmp 75 dX9_letters_69 (by decide)).trans am_sel
theorem r51_72 (d : Nat) (ls st : List Value) (σ : am_St) (τ : Int64) : am_run d 51 72 ls st σ τ = am_run d 51 74 ls (.int (-104) :: st) σ τ := rr_bipush (-104) dX9_letters_72 (by decide)
theorem r51_74 (d : Nat) (ls : List Value) (σ : am_St) (τ : Int64) (x : Int32) : am_run d 51 74 ls [.int x] σ τ = some (some (.int x), σ, τ) := rr_iret dX9_letters_74 rfl
theorem r51_75 (d : Nat) (ls st : List Value) (σ : am_St) (τ : Int64) : am_run d 51 75 ls st σ τ = am_run d 51 76 ls (.int 0 :: st) σ τ := rr_iconst 0 dX9_letters_75 (by decide)
theorem r51_76 (d : Nat) (st : List Value) (σ : am_St) (τ : Int64) (x : Int32) (v0 v1 v2 v3 v4 v5 v6 : Value) : am_run d 51 76 [v0, v1, v2, v3, v4, v5, v6] (.int x :: st) σ τ = am_run d 51 78 [v0, v1, v2, v3, am_nl v4, .int x, v6] st σ τ := rr_istore _ dX9_letters_76 (by decide) (by first | rfl | (by_cases h : v4.category = 2 <;> simp [am_set1, am_nl, h]))
theorem r51_78 (d : Nat) (st : List Value) (σ : am_St) (τ : Int64) (x : Int32) (v0 v1 v2 v3 v4 v6 : Value) : am_run d 51 78 [v0, v1, v2, v3, v4, .int x, v6] st σ τ = am_run d 51 80 [v0, v1, v2, v3, v4, .int x, v6] (.int x :: st) σ τ := rr_iload dX9_letters_78 rfl
theorem r51_80 (d : Nat) (st : List Value) (σ : am_St) (τ : Int64) (x : Int32) (v0 v1 v2 v4 v5 v6 : Value) : am_run d 51 80 [v0, v1, v2, .int x, v4, v5, v6] st σ τ = am_run d 51 81 [v0, v1, v2, .int x, v4, v5, v6] (.int x :: st) σ τ := rr_iload_n dX9_letters_80 rfl
theorem r51_81 (d : Nat) (ls st : List Value) (σ : am_St) (τ : Int64) (x y : Int32) : am_run d 51 81 ls (.int y :: .int x :: st) σ τ = if y ≤ x then am_run d 51 103 ls st σ τ else am_run d 51 84 ls st σ τ := (rr_icmp 103 dX9_letters_81 (by decide)).trans am_sel
theorem r51_84 (d : Nat) (st : List Value) (σ : am_St) (τ : Int64) (x : Nat) (v1 v2 v3 v4 v5 v6 : Value) : am_run d 51 84 [.ref x, v1, v2, v3, v4, v5, v6] st σ τ = am_run d 51 85 [.ref x, v1, v2, v3, v4, v5, v6] (.ref x :: st) σ τ := rr_aload_n dX9_letters_84 rfl
theorem r51_85 (d : Nat) (ls st : List Value) (σ : am_St) (τ : Int64) (k : Nat) : am_run d 51 85 ls (.ref k :: st) σ τ = am_gf k 9 0 σ τ (fun v => am_run d 51 88 ls (v :: st) σ τ) := rr_getf dX9_letters_85 (by decide +kernel)
theorem r51_88 (d : Nat) (st : List Value) (σ : am_St) (τ : Int64) (x : Int64) (v0 v2 v3 v4 v5 v6 : Value) : am_run d 51 88 [v0, .long x, v2, v3, v4, v5, v6] st σ τ = am_run d 51 89 [v0, .long x, v2, v3, v4, v5, v6] (.long x :: st) σ τ := rr_lload_n dX9_letters_88 rfl
theorem r51_89 (d : Nat) (st : List Value) (σ : am_St) (τ : Int64) (x : Int32) (v0 v1 v2 v3 v4 v6 : Value) : am_run d 51 89 [v0, v1, v2, v3, v4, .int x, v6] st σ τ = am_run d 51 91 [v0, v1, v2, v3, v4, .int x, v6] (.int x :: st) σ τ := rr_iload dX9_letters_89 rfl
theorem r51_91 (d : Nat) (ls st : List Value) (σ : am_St) (τ : Int64) (a0 : Int64) (a1 : Int32) (hc : am_cats st ≤ 8) : am_run (d + 1) 51 91 ls (.int a1 :: .long a0 :: st) σ τ = (am_call d 79 [.long a0, .int a1] σ τ).bind (fun r => am_run (d + 1) 51 94 ls (r.1.toList ++ st) r.2.1 r.2.2) := rr_invs [.long a0, .int a1] dX9_letters_91 (by decide +kernel) (by decide +kernel) (by decide) rfl (Nat.le_of_ble_eq_true rfl) hc
theorem r51_94 (d : Nat) (ls st : List Value) (σ : am_St) (τ : Int64) (k : Nat) (a0 : Int32) (hk : am_kc k = 8) (hc : am_cats st ≤ 8) : am_run (d + 1) 51 94 ls (.int a0 :: .ref k :: st) σ τ = (am_call d 44 [.ref k, .int a0] σ τ).bind (fun r => am_run (d + 1) 51 97 ls (r.1.toList ++ st) r.2.1 r.2.2) := rr_invv [.int a0] dX9_letters_94 (by decide +kernel) (by decide) rfl (Nat.le_of_ble_eq_true rfl) hk hc
theorem r51_97 (d : Nat) (st : List Value) (σ : am_St) (τ : Int64) (x : Int32) (v0 v1 v2 v3 v4 v6 : Value) : am_run d 51 97 [v0, v1, v2, v3, v4, .int x, v6] st σ τ = am_run d 51 100 [v0, v1, v2, v3, am_nl v4, .int (x + 1), v6] st σ τ := rr_iinc 1 _ dX9_letters_97 rfl (by decide) (by decide) (by first | rfl | (by_cases h : v4.category = 2 <;> simp [am_set1, am_nl, h]))
theorem r51_100 (d : Nat) (ls st : List Value) (σ : am_St) (τ : Int64) : am_run d 51 100 ls st σ τ = am_run d 51 78 ls st σ τ := rr_goto 78 dX9_letters_100 (by decide)
theorem r51_103 (d : Nat) (st : List Value) (σ : am_St) (τ : Int64) (x : Nat) (v1 v2 v3 v4 v5 v6 : Value) : am_run d 51 103 [.ref x, v1, v2, v3, v4, v5, v6] st σ τ = am_run d 51 104 [.ref x, v1, v2, v3, v4, v5, v6] (.ref x :: st) σ τ := rr_aload_n dX9_letters_103 rfl
theorem r51_104 (d : Nat) (ls st : List Value) (σ : am_St) (τ : Int64) (k : Nat) : am_run d 51 104 ls (.ref k :: st) σ τ = am_gf k 9 0 σ τ (fun v => am_run d 51 107 ls (v :: st) σ τ) := rr_getf dX9_letters_104 (by decide +kernel)
theorem r51_107 (d : Nat) (ls st : List Value) (σ : am_St) (τ : Int64) (k : Nat) : am_run d 51 107 ls (.ref k :: st) σ τ = am_gf k 8 1 σ τ (fun v => am_run d 51 110 ls (v :: st) σ τ) := rr_getf dX9_letters_107 (by decide +kernel)
theorem r51_110 (d : Nat) (ls : List Value) (σ : am_St) (τ : Int64) (x : Int32) : am_run d 51 110 ls [.int x] σ τ = some (some (.int x), σ, τ) := rr_iret dX9_letters_110 rfl
theorem dX9_blank_0 : decode (am_code 52) 0 = .ok (.aload_n 0, 1) := by decide +kernel
theorem dX9_blank_1 : decode (am_code 52) 1 = .ok (.getfield 10, 3) := by decide +kernel
theorem dX9_blank_4 : decode (am_code 52) 4 = .ok (.getfield 82, 3) := by decide +kernel
theorem dX9_blank_7 : decode (am_code 52) 7 = .ok (.istore_n 1, 1) := by decide +kernel
theorem dX9_blank_8 : decode (am_code 52) 8 = .ok (.aload_n 0, 1) := by decide +kernel
theorem dX9_blank_9 : decode (am_code 52) 9 = .ok (.getfield 10, 3) := by decide +kernel
theorem dX9_blank_12 : decode (am_code 52) 12 = .ok (.iconst 0, 1) := by decide +kernel
theorem dX9_blank_13 : decode (am_code 52) 13 = .ok (.putfield 82, 3) := by decide +kernel
theorem dX9_blank_16 : decode (am_code 52) 16 = .ok (.iload_n 1, 1) := by decide +kernel
theorem dX9_blank_17 : decode (am_code 52) 17 = .ok (.ireturn, 1) := by decide +kernel
theorem r52_0 (d : Nat) (st : List Value) (σ : am_St) (τ : Int64) (x : Nat) (v1 : Value) : am_run d 52 0 [.ref x, v1] st σ τ = am_run d 52 1 [.ref x, v1] (.ref x :: st) σ τ := rr_aload_n dX9_blank_0 rfl
theorem r52_1 (d : Nat) (ls st : List Value) (σ : am_St) (τ : Int64) (k : Nat) : am_run d 52 1 ls (.ref k :: st) σ τ = am_gf k 9 0 σ τ (fun v => am_run d 52 4 ls (v :: st) σ τ) := rr_getf dX9_blank_1 (by decide +kernel)
theorem r52_4 (d : Nat) (ls st : List Value) (σ : am_St) (τ : Int64) (k : Nat) : am_run d 52 4 ls (.ref k :: st) σ τ = am_gf k 8 1 σ τ (fun v => am_run d 52 7 ls (v :: st) σ τ) := rr_getf dX9_blank_4 (by decide +kernel)
theorem r52_7 (d : Nat) (st : List Value) (σ : am_St) (τ : Int64) (x : Int32) (v0 v1 : Value) : am_run d 52 7 [v0, v1] (.int x :: st) σ τ = am_run d 52 8 [am_nl v0, .int x] st σ τ := rr_istore_n _ dX9_blank_7 (by decide) (by first | rfl | (by_cases h : v0.category = 2 <;> simp [am_set1, am_nl, h]))
theorem r52_8 (d : Nat) (st : List Value) (σ : am_St) (τ : Int64) (x : Nat) (v1 : Value) : am_run d 52 8 [.ref x, v1] st σ τ = am_run d 52 9 [.ref x, v1] (.ref x :: st) σ τ := rr_aload_n dX9_blank_8 rfl
theorem r52_9 (d : Nat) (ls st : List Value) (σ : am_St) (τ : Int64) (k : Nat) : am_run d 52 9 ls (.ref k :: st) σ τ = am_gf k 9 0 σ τ (fun v => am_run d 52 12 ls (v :: st) σ τ) := rr_getf dX9_blank_9 (by decide +kernel)
theorem r52_12 (d : Nat) (ls st : List Value) (σ : am_St) (τ : Int64) : am_run d 52 12 ls st σ τ = am_run d 52 13 ls (.int 0 :: st) σ τ := rr_iconst 0 dX9_blank_12 (by decide)
theorem r52_13 (d : Nat) (ls st : List Value) (σ : am_St) (τ : Int64) (k : Nat) (x : Int32) : am_run d 52 13 ls (.int x :: .ref k :: st) σ τ = am_pf k 8 1 x σ (fun σ => am_run d 52 16 ls st σ τ) := rr_putf dX9_blank_13 (by decide +kernel)
theorem r52_16 (d : Nat) (st : List Value) (σ : am_St) (τ : Int64) (x : Int32) (v0 : Value) : am_run d 52 16 [v0, .int x] st σ τ = am_run d 52 17 [v0, .int x] (.int x :: st) σ τ := rr_iload_n dX9_blank_16 rfl
theorem r52_17 (d : Nat) (ls : List Value) (σ : am_St) (τ : Int64) (x : Int32) : am_run d 52 17 ls [.int x] σ τ = some (some (.int x), σ, τ) := rr_iret dX9_blank_17 rfl
theorem dX9_fault_0 : decode (am_code 53) 0 = .ok (.aload_n 0, 1) := by decide +kernel
theorem dX9_fault_1 : decode (am_code 53) 1 = .ok (.getfield 10, 3) := by decide +kernel
theorem dX9_fault_4 : decode (am_code 53) 4 = .ok (.invokevirtual 90, 3) := by decide +kernel
theorem dX9_fault_7 : decode (am_code 53) 7 = .ok (.ireturn, 1) := by decide +kernel
theorem r53_0 (d : Nat) (st : List Value) (σ : am_St) (τ : Int64) (x : Nat) : am_run d 53 0 [.ref x] st σ τ = am_run d 53 1 [.ref x] (.ref x :: st) σ τ := rr_aload_n dX9_fault_0 rfl
theorem r53_1 (d : Nat) (ls st : List Value) (σ : am_St) (τ : Int64) (k : Nat) : am_run d 53 1 ls (.ref k :: st) σ τ = am_gf k 9 0 σ τ (fun v => am_run d 53 4 ls (v :: st) σ τ) := rr_getf dX9_fault_1 (by decide +kernel)
theorem r53_4 (d : Nat) (ls st : List Value) (σ : am_St) (τ : Int64) (k : Nat)  (hk : am_kc k = 8) (hc : am_cats st ≤ 8) : am_run (d + 1) 53 4 ls (.ref k :: st) σ τ = (am_call d 45 [.ref k] σ τ).bind (fun r => am_run (d + 1) 53 7 ls (r.1.toList ++ st) r.2.1 r.2.2) := rr_invv [] dX9_fault_4 (by decide +kernel) (by decide) rfl (Nat.le_of_ble_eq_true rfl) hk hc
theorem r53_7 (d : Nat) (ls : List Value) (σ : am_St) (τ : Int64) (x : Int32) : am_run d 53 7 ls [.int x] σ τ = some (some (.int x), σ, τ) := rr_iret dX9_fault_7 rfl
theorem dX9_law_0 : decode (am_code 54) 0 = .ok (.aload_n 0, 1) := by decide +kernel
theorem dX9_law_1 : decode (am_code 54) 1 = .ok (.getfield 10, 3) := by decide +kernel
theorem dX9_law_4 : decode (am_code 54) 4 = .ok (.invokevirtual 94, 3) := by decide +kernel
theorem dX9_law_7 : decode (am_code 54) 7 = .ok (.ifCond .ne 6, 3) := by decide +kernel
theorem dX9_law_10 : decode (am_code 54) 10 = .ok (.bipush (-103), 2) := by decide +kernel
theorem dX9_law_12 : decode (am_code 54) 12 = .ok (.ireturn, 1) := by decide +kernel
theorem dX9_law_13 : decode (am_code 54) 13 = .ok (.aload_n 0, 1) := by decide +kernel
theorem dX9_law_14 : decode (am_code 54) 14 = .ok (.getfield 10, 3) := by decide +kernel
theorem dX9_law_17 : decode (am_code 54) 17 = .ok (.aload_n 0, 1) := by decide +kernel
theorem dX9_law_18 : decode (am_code 54) 18 = .ok (.getfield 21, 3) := by decide +kernel
theorem dX9_law_21 : decode (am_code 54) 21 = .ok (.invokevirtual 98, 3) := by decide +kernel
theorem dX9_law_24 : decode (am_code 54) 24 = .ok (.aload_n 0, 1) := by decide +kernel
theorem dX9_law_25 : decode (am_code 54) 25 = .ok (.getfield 10, 3) := by decide +kernel
theorem dX9_law_28 : decode (am_code 54) 28 = .ok (.iconst 0, 1) := by decide +kernel
theorem dX9_law_29 : decode (am_code 54) 29 = .ok (.putfield 82, 3) := by decide +kernel
theorem dX9_law_32 : decode (am_code 54) 32 = .ok (.aload_n 0, 1) := by decide +kernel
theorem dX9_law_33 : decode (am_code 54) 33 = .ok (.dup, 1) := by decide +kernel
theorem dX9_law_34 : decode (am_code 54) 34 = .ok (.getfield 102, 3) := by decide +kernel
theorem dX9_law_37 : decode (am_code 54) 37 = .ok (.iconst 1, 1) := by decide +kernel
theorem dX9_law_38 : decode (am_code 54) 38 = .ok (.iadd, 1) := by decide +kernel
theorem dX9_law_39 : decode (am_code 54) 39 = .ok (.putfield 102, 3) := by decide +kernel
theorem dX9_law_42 : decode (am_code 54) 42 = .ok (.aload_n 0, 1) := by decide +kernel
theorem dX9_law_43 : decode (am_code 54) 43 = .ok (.invokevirtual 105, 3) := by decide +kernel
theorem dX9_law_46 : decode (am_code 54) 46 = .ok (.aload_n 0, 1) := by decide +kernel
theorem dX9_law_47 : decode (am_code 54) 47 = .ok (.getfield 102, 3) := by decide +kernel
theorem dX9_law_50 : decode (am_code 54) 50 = .ok (.ireturn, 1) := by decide +kernel
theorem r54_0 (d : Nat) (st : List Value) (σ : am_St) (τ : Int64) (x : Nat) : am_run d 54 0 [.ref x] st σ τ = am_run d 54 1 [.ref x] (.ref x :: st) σ τ := rr_aload_n dX9_law_0 rfl
theorem r54_1 (d : Nat) (ls st : List Value) (σ : am_St) (τ : Int64) (k : Nat) : am_run d 54 1 ls (.ref k :: st) σ τ = am_gf k 9 0 σ τ (fun v => am_run d 54 4 ls (v :: st) σ τ) := rr_getf dX9_law_1 (by decide +kernel)
theorem r54_4 (d : Nat) (ls st : List Value) (σ : am_St) (τ : Int64) (k : Nat)  (hk : am_kc k = 8) (hc : am_cats st ≤ 8) : am_run (d + 1) 54 4 ls (.ref k :: st) σ τ = (am_call d 46 [.ref k] σ τ).bind (fun r => am_run (d + 1) 54 7 ls (r.1.toList ++ st) r.2.1 r.2.2) := rr_invv [] dX9_law_4 (by decide +kernel) (by decide) rfl (Nat.le_of_ble_eq_true rfl) hk hc
theorem r54_7 (d : Nat) (ls st : List Value) (σ : am_St) (τ : Int64) (x : Int32) : am_run d 54 7 ls (.int x :: st) σ τ = if x = 0 then am_run d 54 10 ls st σ τ else am_run d 54 13 ls st σ τ := (rr_if 13 dX9_law_7 (by decide)).trans am_seln
theorem r54_10 (d : Nat) (ls st : List Value) (σ : am_St) (τ : Int64) : am_run d 54 10 ls st σ τ = am_run d 54 12 ls (.int (-103) :: st) σ τ := rr_bipush (-103) dX9_law_10 (by decide)
theorem r54_12 (d : Nat) (ls : List Value) (σ : am_St) (τ : Int64) (x : Int32) : am_run d 54 12 ls [.int x] σ τ = some (some (.int x), σ, τ) := rr_iret dX9_law_12 rfl
theorem r54_13 (d : Nat) (st : List Value) (σ : am_St) (τ : Int64) (x : Nat) : am_run d 54 13 [.ref x] st σ τ = am_run d 54 14 [.ref x] (.ref x :: st) σ τ := rr_aload_n dX9_law_13 rfl
theorem r54_14 (d : Nat) (ls st : List Value) (σ : am_St) (τ : Int64) (k : Nat) : am_run d 54 14 ls (.ref k :: st) σ τ = am_gf k 9 0 σ τ (fun v => am_run d 54 17 ls (v :: st) σ τ) := rr_getf dX9_law_14 (by decide +kernel)
theorem r54_17 (d : Nat) (st : List Value) (σ : am_St) (τ : Int64) (x : Nat) : am_run d 54 17 [.ref x] st σ τ = am_run d 54 18 [.ref x] (.ref x :: st) σ τ := rr_aload_n dX9_law_17 rfl
theorem r54_18 (d : Nat) (ls st : List Value) (σ : am_St) (τ : Int64) (k : Nat) : am_run d 54 18 ls (.ref k :: st) σ τ = am_gf k 9 1 σ τ (fun v => am_run d 54 21 ls (v :: st) σ τ) := rr_getf dX9_law_18 (by decide +kernel)
theorem r54_21 (d : Nat) (ls st : List Value) (σ : am_St) (τ : Int64) (k : Nat) (a0 : Nat) (hk : am_kc k = 8) (hc : am_cats st ≤ 8) : am_run (d + 1) 54 21 ls (.ref a0 :: .ref k :: st) σ τ = (am_call d 47 [.ref k, .ref a0] σ τ).bind (fun r => am_run (d + 1) 54 24 ls (r.1.toList ++ st) r.2.1 r.2.2) := rr_invv [.ref a0] dX9_law_21 (by decide +kernel) (by decide) rfl (Nat.le_of_ble_eq_true rfl) hk hc
theorem r54_24 (d : Nat) (st : List Value) (σ : am_St) (τ : Int64) (x : Nat) : am_run d 54 24 [.ref x] st σ τ = am_run d 54 25 [.ref x] (.ref x :: st) σ τ := rr_aload_n dX9_law_24 rfl
theorem r54_25 (d : Nat) (ls st : List Value) (σ : am_St) (τ : Int64) (k : Nat) : am_run d 54 25 ls (.ref k :: st) σ τ = am_gf k 9 0 σ τ (fun v => am_run d 54 28 ls (v :: st) σ τ) := rr_getf dX9_law_25 (by decide +kernel)
theorem r54_28 (d : Nat) (ls st : List Value) (σ : am_St) (τ : Int64) : am_run d 54 28 ls st σ τ = am_run d 54 29 ls (.int 0 :: st) σ τ := rr_iconst 0 dX9_law_28 (by decide)
theorem r54_29 (d : Nat) (ls st : List Value) (σ : am_St) (τ : Int64) (k : Nat) (x : Int32) : am_run d 54 29 ls (.int x :: .ref k :: st) σ τ = am_pf k 8 1 x σ (fun σ => am_run d 54 32 ls st σ τ) := rr_putf dX9_law_29 (by decide +kernel)
theorem r54_32 (d : Nat) (st : List Value) (σ : am_St) (τ : Int64) (x : Nat) : am_run d 54 32 [.ref x] st σ τ = am_run d 54 33 [.ref x] (.ref x :: st) σ τ := rr_aload_n dX9_law_32 rfl
theorem r54_33 (d : Nat) (ls st : List Value) (σ : am_St) (τ : Int64) (x : Nat) : am_run d 54 33 ls (.ref x :: st) σ τ = am_run d 54 34 ls (.ref x :: .ref x :: st) σ τ := rr_dup_r dX9_law_33
theorem r54_33i (d : Nat) (ls st : List Value) (σ : am_St) (τ : Int64) (x : Int32) : am_run d 54 33 ls (.int x :: st) σ τ = am_run d 54 34 ls (.int x :: .int x :: st) σ τ := rr_dup_i dX9_law_33
theorem r54_34 (d : Nat) (ls st : List Value) (σ : am_St) (τ : Int64) (k : Nat) : am_run d 54 34 ls (.ref k :: st) σ τ = am_gf k 9 9 σ τ (fun v => am_run d 54 37 ls (v :: st) σ τ) := rr_getf dX9_law_34 (by decide +kernel)
theorem r54_37 (d : Nat) (ls st : List Value) (σ : am_St) (τ : Int64) : am_run d 54 37 ls st σ τ = am_run d 54 38 ls (.int 1 :: st) σ τ := rr_iconst 1 dX9_law_37 (by decide)
theorem r54_38 (d : Nat) (ls st : List Value) (σ : am_St) (τ : Int64) (x y : Int32) : am_run d 54 38 ls (.int y :: .int x :: st) σ τ = am_run d 54 39 ls (.int (x + y) :: st) σ τ := rr_iadd dX9_law_38
theorem r54_39 (d : Nat) (ls st : List Value) (σ : am_St) (τ : Int64) (k : Nat) (x : Int32) : am_run d 54 39 ls (.int x :: .ref k :: st) σ τ = am_pf k 9 9 x σ (fun σ => am_run d 54 42 ls st σ τ) := rr_putf dX9_law_39 (by decide +kernel)
theorem r54_42 (d : Nat) (st : List Value) (σ : am_St) (τ : Int64) (x : Nat) : am_run d 54 42 [.ref x] st σ τ = am_run d 54 43 [.ref x] (.ref x :: st) σ τ := rr_aload_n dX9_law_42 rfl
theorem r54_43 (d : Nat) (ls st : List Value) (σ : am_St) (τ : Int64) (k : Nat)  (hk : am_kc k = 9) (hc : am_cats st ≤ 8) : am_run (d + 1) 54 43 ls (.ref k :: st) σ τ = (am_call d 77 [.ref k] σ τ).bind (fun r => am_run (d + 1) 54 46 ls (r.1.toList ++ st) r.2.1 r.2.2) := rr_invv [] dX9_law_43 (by decide +kernel) (by decide) rfl (Nat.le_of_ble_eq_true rfl) hk hc
theorem r54_46 (d : Nat) (st : List Value) (σ : am_St) (τ : Int64) (x : Nat) : am_run d 54 46 [.ref x] st σ τ = am_run d 54 47 [.ref x] (.ref x :: st) σ τ := rr_aload_n dX9_law_46 rfl
theorem r54_47 (d : Nat) (ls st : List Value) (σ : am_St) (τ : Int64) (k : Nat) : am_run d 54 47 ls (.ref k :: st) σ τ = am_gf k 9 9 σ τ (fun v => am_run d 54 50 ls (v :: st) σ τ) := rr_getf dX9_law_47 (by decide +kernel)
theorem r54_50 (d : Nat) (ls : List Value) (σ : am_St) (τ : Int64) (x : Int32) : am_run d 54 50 ls [.int x] σ τ = some (some (.int x), σ, τ) := rr_iret dX9_law_50 rfl
theorem dX9_lawTold_0 : decode (am_code 55) 0 = .ok (.iload_n 1, 1) := by decide +kernel
theorem dX9_lawTold_1 : decode (am_code 55) 1 = .ok (.tableswitch 63 0 3 #[31, 39, 47, 55], 31) := by decide +kernel
theorem dX9_lawTold_32 : decode (am_code 55) 32 = .ok (.aload_n 0, 1) := by decide +kernel
theorem dX9_lawTold_33 : decode (am_code 55) 33 = .ok (.getfield 21, 3) := by decide +kernel
theorem dX9_lawTold_36 : decode (am_code 55) 36 = .ok (.getfield 108, 3) := by decide +kernel
theorem dX9_lawTold_39 : decode (am_code 55) 39 = .ok (.ireturn, 1) := by decide +kernel
theorem dX9_lawTold_40 : decode (am_code 55) 40 = .ok (.aload_n 0, 1) := by decide +kernel
theorem dX9_lawTold_41 : decode (am_code 55) 41 = .ok (.getfield 21, 3) := by decide +kernel
theorem dX9_lawTold_44 : decode (am_code 55) 44 = .ok (.getfield 111, 3) := by decide +kernel
theorem dX9_lawTold_47 : decode (am_code 55) 47 = .ok (.ireturn, 1) := by decide +kernel
theorem dX9_lawTold_48 : decode (am_code 55) 48 = .ok (.aload_n 0, 1) := by decide +kernel
theorem dX9_lawTold_49 : decode (am_code 55) 49 = .ok (.getfield 21, 3) := by decide +kernel
theorem dX9_lawTold_52 : decode (am_code 55) 52 = .ok (.getfield 114, 3) := by decide +kernel
theorem dX9_lawTold_55 : decode (am_code 55) 55 = .ok (.ireturn, 1) := by decide +kernel
theorem dX9_lawTold_56 : decode (am_code 55) 56 = .ok (.aload_n 0, 1) := by decide +kernel
theorem dX9_lawTold_57 : decode (am_code 55) 57 = .ok (.getfield 21, 3) := by decide +kernel
theorem dX9_lawTold_60 : decode (am_code 55) 60 = .ok (.getfield 117, 3) := by decide +kernel
theorem dX9_lawTold_63 : decode (am_code 55) 63 = .ok (.ireturn, 1) := by decide +kernel
theorem dX9_lawTold_64 : decode (am_code 55) 64 = .ok (.bipush (-102), 2) := by decide +kernel
theorem dX9_lawTold_66 : decode (am_code 55) 66 = .ok (.ireturn, 1) := by decide +kernel
theorem r55_0 (d : Nat) (st : List Value) (σ : am_St) (τ : Int64) (x : Int32) (v0 : Value) : am_run d 55 0 [v0, .int x] st σ τ = am_run d 55 1 [v0, .int x] (.int x :: st) σ τ := rr_iload_n dX9_lawTold_0 rfl
theorem r55_1 (d : Nat) (ls st : List Value) (σ : am_St) (τ : Int64) (x : Int32) : am_run d 55 1 ls (.int x :: st) σ τ = am_run d 55 (am_sw x 0 [32, 40, 48, 56] 64) ls st σ τ := rr_tsw [32, 40, 48, 56] 64 dX9_lawTold_1 (by decide) (by decide) (by decide)
theorem r55_32 (d : Nat) (st : List Value) (σ : am_St) (τ : Int64) (x : Nat) (v1 : Value) : am_run d 55 32 [.ref x, v1] st σ τ = am_run d 55 33 [.ref x, v1] (.ref x :: st) σ τ := rr_aload_n dX9_lawTold_32 rfl
theorem r55_33 (d : Nat) (ls st : List Value) (σ : am_St) (τ : Int64) (k : Nat) : am_run d 55 33 ls (.ref k :: st) σ τ = am_gf k 9 1 σ τ (fun v => am_run d 55 36 ls (v :: st) σ τ) := rr_getf dX9_lawTold_33 (by decide +kernel)
theorem r55_36 (d : Nat) (ls st : List Value) (σ : am_St) (τ : Int64) (k : Nat) : am_run d 55 36 ls (.ref k :: st) σ τ = am_gf k 4 0 σ τ (fun v => am_run d 55 39 ls (v :: st) σ τ) := rr_getf dX9_lawTold_36 (by decide +kernel)
theorem r55_39 (d : Nat) (ls : List Value) (σ : am_St) (τ : Int64) (x : Int32) : am_run d 55 39 ls [.int x] σ τ = some (some (.int x), σ, τ) := rr_iret dX9_lawTold_39 rfl
theorem r55_40 (d : Nat) (st : List Value) (σ : am_St) (τ : Int64) (x : Nat) (v1 : Value) : am_run d 55 40 [.ref x, v1] st σ τ = am_run d 55 41 [.ref x, v1] (.ref x :: st) σ τ := rr_aload_n dX9_lawTold_40 rfl
theorem r55_41 (d : Nat) (ls st : List Value) (σ : am_St) (τ : Int64) (k : Nat) : am_run d 55 41 ls (.ref k :: st) σ τ = am_gf k 9 1 σ τ (fun v => am_run d 55 44 ls (v :: st) σ τ) := rr_getf dX9_lawTold_41 (by decide +kernel)
theorem r55_44 (d : Nat) (ls st : List Value) (σ : am_St) (τ : Int64) (k : Nat) : am_run d 55 44 ls (.ref k :: st) σ τ = am_gf k 4 1 σ τ (fun v => am_run d 55 47 ls (v :: st) σ τ) := rr_getf dX9_lawTold_44 (by decide +kernel)
theorem r55_47 (d : Nat) (ls : List Value) (σ : am_St) (τ : Int64) (x : Int32) : am_run d 55 47 ls [.int x] σ τ = some (some (.int x), σ, τ) := rr_iret dX9_lawTold_47 rfl
theorem r55_48 (d : Nat) (st : List Value) (σ : am_St) (τ : Int64) (x : Nat) (v1 : Value) : am_run d 55 48 [.ref x, v1] st σ τ = am_run d 55 49 [.ref x, v1] (.ref x :: st) σ τ := rr_aload_n dX9_lawTold_48 rfl
theorem r55_49 (d : Nat) (ls st : List Value) (σ : am_St) (τ : Int64) (k : Nat) : am_run d 55 49 ls (.ref k :: st) σ τ = am_gf k 9 1 σ τ (fun v => am_run d 55 52 ls (v :: st) σ τ) := rr_getf dX9_lawTold_49 (by decide +kernel)
theorem r55_52 (d : Nat) (ls st : List Value) (σ : am_St) (τ : Int64) (k : Nat) : am_run d 55 52 ls (.ref k :: st) σ τ = am_gf k 4 2 σ τ (fun v => am_run d 55 55 ls (v :: st) σ τ) := rr_getf dX9_lawTold_52 (by decide +kernel)
theorem r55_55 (d : Nat) (ls : List Value) (σ : am_St) (τ : Int64) (x : Int32) : am_run d 55 55 ls [.int x] σ τ = some (some (.int x), σ, τ) := rr_iret dX9_lawTold_55 rfl
theorem r55_56 (d : Nat) (st : List Value) (σ : am_St) (τ : Int64) (x : Nat) (v1 : Value) : am_run d 55 56 [.ref x, v1] st σ τ = am_run d 55 57 [.ref x, v1] (.ref x :: st) σ τ := rr_aload_n dX9_lawTold_56 rfl
theorem r55_57 (d : Nat) (ls st : List Value) (σ : am_St) (τ : Int64) (k : Nat) : am_run d 55 57 ls (.ref k :: st) σ τ = am_gf k 9 1 σ τ (fun v => am_run d 55 60 ls (v :: st) σ τ) := rr_getf dX9_lawTold_57 (by decide +kernel)
theorem r55_60 (d : Nat) (ls st : List Value) (σ : am_St) (τ : Int64) (k : Nat) : am_run d 55 60 ls (.ref k :: st) σ τ = am_gf k 4 3 σ τ (fun v => am_run d 55 63 ls (v :: st) σ τ) := rr_getf dX9_lawTold_60 (by decide +kernel)
theorem r55_63 (d : Nat) (ls : List Value) (σ : am_St) (τ : Int64) (x : Int32) : am_run d 55 63 ls [.int x] σ τ = some (some (.int x), σ, τ) := rr_iret dX9_lawTold_63 rfl
theorem r55_64 (d : Nat) (ls st : List Value) (σ : am_St) (τ : Int64) : am_run d 55 64 ls st σ τ = am_run d 55 66 ls (.int (-102) :: st) σ τ := rr_bipush (-102) dX9_lawTold_64 (by decide)
theorem r55_66 (d : Nat) (ls : List Value) (σ : am_St) (τ : Int64) (x : Int32) : am_run d 55 66 ls [.int x] σ τ = some (some (.int x), σ, τ) := rr_iret dX9_lawTold_66 rfl
theorem dX9_person_0 : decode (am_code 56) 0 = .ok (.iload_n 1, 1) := by decide +kernel
theorem dX9_person_1 : decode (am_code 56) 1 = .ok (.invokestatic 120, 3) := by decide +kernel
theorem dX9_person_4 : decode (am_code 56) 4 = .ok (.ifCond .eq 12, 3) := by decide +kernel
theorem dX9_person_7 : decode (am_code 56) 7 = .ok (.iload_n 2, 1) := by decide +kernel
theorem dX9_person_8 : decode (am_code 56) 8 = .ok (.ifCond .eq 11, 3) := by decide +kernel
theorem dX9_person_11 : decode (am_code 56) 11 = .ok (.iload_n 2, 1) := by decide +kernel
theorem dX9_person_12 : decode (am_code 56) 12 = .ok (.iconst 1, 1) := by decide +kernel
theorem dX9_person_13 : decode (am_code 56) 13 = .ok (.if_icmp .eq 6, 3) := by decide +kernel
theorem dX9_person_16 : decode (am_code 56) 16 = .ok (.bipush (-102), 2) := by decide +kernel
theorem dX9_person_18 : decode (am_code 56) 18 = .ok (.ireturn, 1) := by decide +kernel
theorem dX9_person_19 : decode (am_code 56) 19 = .ok (.iload_n 1, 1) := by decide +kernel
theorem dX9_person_20 : decode (am_code 56) 20 = .ok (.iconst 1, 1) := by decide +kernel
theorem dX9_person_21 : decode (am_code 56) 21 = .ok (.if_icmp .eq 8, 3) := by decide +kernel
theorem dX9_person_24 : decode (am_code 56) 24 = .ok (.iload_n 1, 1) := by decide +kernel
theorem dX9_person_25 : decode (am_code 56) 25 = .ok (.iconst 3, 1) := by decide +kernel
theorem dX9_person_26 : decode (am_code 56) 26 = .ok (.if_icmp .ne 7, 3) := by decide +kernel
theorem dX9_person_29 : decode (am_code 56) 29 = .ok (.iconst 1, 1) := by decide +kernel
theorem dX9_person_30 : decode (am_code 56) 30 = .ok (.goto 4, 3) := by decide +kernel
theorem dX9_person_33 : decode (am_code 56) 33 = .ok (.iconst 0, 1) := by decide +kernel
theorem dX9_person_34 : decode (am_code 56) 34 = .ok (.istore 6, 2) := by decide +kernel
theorem dX9_person_36 : decode (am_code 56) 36 = .ok (.iload 6, 2) := by decide +kernel
theorem dX9_person_38 : decode (am_code 56) 38 = .ok (.ifCond .eq 22, 3) := by decide +kernel
theorem dX9_person_41 : decode (am_code 56) 41 = .ok (.iload_n 3, 1) := by decide +kernel
theorem dX9_person_42 : decode (am_code 56) 42 = .ok (.iconst (-1), 1) := by decide +kernel
theorem dX9_person_43 : decode (am_code 56) 43 = .ok (.if_icmp .ne 13, 3) := by decide +kernel
theorem dX9_person_46 : decode (am_code 56) 46 = .ok (.iload 4, 2) := by decide +kernel
theorem dX9_person_48 : decode (am_code 56) 48 = .ok (.iconst (-1), 1) := by decide +kernel
theorem dX9_person_49 : decode (am_code 56) 49 = .ok (.if_icmp .ne 7, 3) := by decide +kernel
theorem dX9_person_52 : decode (am_code 56) 52 = .ok (.iconst 1, 1) := by decide +kernel
theorem dX9_person_53 : decode (am_code 56) 53 = .ok (.goto 36, 3) := by decide +kernel
theorem dX9_person_56 : decode (am_code 56) 56 = .ok (.iconst 0, 1) := by decide +kernel
theorem dX9_person_57 : decode (am_code 56) 57 = .ok (.goto 32, 3) := by decide +kernel
theorem dX9_person_60 : decode (am_code 56) 60 = .ok (.aload_n 0, 1) := by decide +kernel
theorem dX9_person_61 : decode (am_code 56) 61 = .ok (.getfield 28, 3) := by decide +kernel
theorem dX9_person_64 : decode (am_code 56) 64 = .ok (.iload_n 3, 1) := by decide +kernel
theorem dX9_person_65 : decode (am_code 56) 65 = .ok (.invokevirtual 124, 3) := by decide +kernel
theorem dX9_person_68 : decode (am_code 56) 68 = .ok (.ifCond .eq 20, 3) := by decide +kernel
theorem dX9_person_71 : decode (am_code 56) 71 = .ok (.aload_n 0, 1) := by decide +kernel
theorem dX9_person_72 : decode (am_code 56) 72 = .ok (.getfield 28, 3) := by decide +kernel
theorem dX9_person_75 : decode (am_code 56) 75 = .ok (.iload 4, 2) := by decide +kernel
theorem dX9_person_77 : decode (am_code 56) 77 = .ok (.iconst 1, 1) := by decide +kernel
theorem dX9_person_78 : decode (am_code 56) 78 = .ok (.invokevirtual 127, 3) := by decide +kernel
theorem dX9_person_81 : decode (am_code 56) 81 = .ok (.ifCond .eq 7, 3) := by decide +kernel
theorem dX9_person_84 : decode (am_code 56) 84 = .ok (.iconst 1, 1) := by decide +kernel
theorem dX9_person_85 : decode (am_code 56) 85 = .ok (.goto 4, 3) := by decide +kernel
theorem dX9_person_88 : decode (am_code 56) 88 = .ok (.iconst 0, 1) := by decide +kernel
theorem dX9_person_89 : decode (am_code 56) 89 = .ok (.istore 7, 2) := by decide +kernel
theorem dX9_person_91 : decode (am_code 56) 91 = .ok (.iload 7, 2) := by decide +kernel
theorem dX9_person_93 : decode (am_code 56) 93 = .ok (.ifCond .ne 6, 3) := by decide +kernel
theorem dX9_person_96 : decode (am_code 56) 96 = .ok (.bipush (-101), 2) := by decide +kernel
theorem dX9_person_98 : decode (am_code 56) 98 = .ok (.ireturn, 1) := by decide +kernel
theorem dX9_person_99 : decode (am_code 56) 99 = .ok (.iload 6, 2) := by decide +kernel
theorem dX9_person_101 : decode (am_code 56) 101 = .ok (.ifCond .eq 14, 3) := by decide +kernel
theorem dX9_person_104 : decode (am_code 56) 104 = .ok (.iload 5, 2) := by decide +kernel
theorem dX9_person_106 : decode (am_code 56) 106 = .ok (.invokestatic 131, 3) := by decide +kernel
theorem dX9_person_109 : decode (am_code 56) 109 = .ok (.ifCond .ne 14, 3) := by decide +kernel
theorem dX9_person_112 : decode (am_code 56) 112 = .ok (.goto 8, 3) := by decide +kernel
theorem dX9_person_115 : decode (am_code 56) 115 = .ok (.iload 5, 2) := by decide +kernel
theorem dX9_person_117 : decode (am_code 56) 117 = .ok (.ifCond .eq 6, 3) := by decide +kernel
theorem dX9_person_120 : decode (am_code 56) 120 = .ok (.bipush (-102), 2) := by decide +kernel
theorem dX9_person_122 : decode (am_code 56) 122 = .ok (.ireturn, 1) := by decide +kernel
theorem dX9_person_123 : decode (am_code 56) 123 = .ok (.aload_n 0, 1) := by decide +kernel
theorem dX9_person_124 : decode (am_code 56) 124 = .ok (.getfield 28, 3) := by decide +kernel
theorem dX9_person_127 : decode (am_code 56) 127 = .ok (.getfield 134, 3) := by decide +kernel
theorem dX9_person_130 : decode (am_code 56) 130 = .ok (.bipush 12, 2) := by decide +kernel
theorem dX9_person_132 : decode (am_code 56) 132 = .ok (.if_icmp .ge 20, 3) := by decide +kernel
theorem dX9_person_135 : decode (am_code 56) 135 = .ok (.iload_n 3, 1) := by decide +kernel
theorem dX9_person_136 : decode (am_code 56) 136 = .ok (.bipush (-2), 2) := by decide +kernel
theorem dX9_person_138 : decode (am_code 56) 138 = .ok (.if_icmp .ne 17, 3) := by decide +kernel
theorem dX9_person_141 : decode (am_code 56) 141 = .ok (.aload_n 0, 1) := by decide +kernel
theorem dX9_person_142 : decode (am_code 56) 142 = .ok (.getfield 28, 3) := by decide +kernel
theorem dX9_person_145 : decode (am_code 56) 145 = .ok (.invokevirtual 137, 3) := by decide +kernel
theorem dX9_person_148 : decode (am_code 56) 148 = .ok (.iconst 3, 1) := by decide +kernel
theorem dX9_person_149 : decode (am_code 56) 149 = .ok (.if_icmp .lt 6, 3) := by decide +kernel
theorem dX9_person_152 : decode (am_code 56) 152 = .ok (.bipush (-104), 2) := by decide +kernel
theorem dX9_person_154 : decode (am_code 56) 154 = .ok (.ireturn, 1) := by decide +kernel
theorem dX9_person_155 : decode (am_code 56) 155 = .ok (.aload_n 0, 1) := by decide +kernel
theorem dX9_person_156 : decode (am_code 56) 156 = .ok (.getfield 28, 3) := by decide +kernel
theorem dX9_person_159 : decode (am_code 56) 159 = .ok (.iload_n 1, 1) := by decide +kernel
theorem dX9_person_160 : decode (am_code 56) 160 = .ok (.iload_n 2, 1) := by decide +kernel
theorem dX9_person_161 : decode (am_code 56) 161 = .ok (.iload_n 3, 1) := by decide +kernel
theorem dX9_person_162 : decode (am_code 56) 162 = .ok (.iload 4, 2) := by decide +kernel
theorem dX9_person_164 : decode (am_code 56) 164 = .ok (.iload 5, 2) := by decide +kernel
theorem dX9_person_166 : decode (am_code 56) 166 = .ok (.invokevirtual 140, 3) := by decide +kernel
theorem dX9_person_169 : decode (am_code 56) 169 = .ok (.istore 8, 2) := by decide +kernel
theorem dX9_person_171 : decode (am_code 56) 171 = .ok (.aload_n 0, 1) := by decide +kernel
theorem dX9_person_172 : decode (am_code 56) 172 = .ok (.invokevirtual 105, 3) := by decide +kernel
theorem dX9_person_175 : decode (am_code 56) 175 = .ok (.iload 8, 2) := by decide +kernel
theorem dX9_person_177 : decode (am_code 56) 177 = .ok (.ireturn, 1) := by decide +kernel
theorem r56_0 (d : Nat) (st : List Value) (σ : am_St) (τ : Int64) (x : Int32) (v0 v2 v3 v4 v5 v6 v7 v8 : Value) : am_run d 56 0 [v0, .int x, v2, v3, v4, v5, v6, v7, v8] st σ τ = am_run d 56 1 [v0, .int x, v2, v3, v4, v5, v6, v7, v8] (.int x :: st) σ τ := rr_iload_n dX9_person_0 rfl
theorem r56_1 (d : Nat) (ls st : List Value) (σ : am_St) (τ : Int64) (a0 : Int32) (hc : am_cats st ≤ 8) : am_run (d + 1) 56 1 ls (.int a0 :: st) σ τ = (am_call d 80 [.int a0] σ τ).bind (fun r => am_run (d + 1) 56 4 ls (r.1.toList ++ st) r.2.1 r.2.2) := rr_invs [.int a0] dX9_person_1 (by decide +kernel) (by decide +kernel) (by decide) rfl (Nat.le_of_ble_eq_true rfl) hc
theorem r56_4 (d : Nat) (ls st : List Value) (σ : am_St) (τ : Int64) (x : Int32) : am_run d 56 4 ls (.int x :: st) σ τ = if x = 0 then am_run d 56 16 ls st σ τ else am_run d 56 7 ls st σ τ := (rr_if 16 dX9_person_4 (by decide)).trans am_sel
theorem r56_7 (d : Nat) (st : List Value) (σ : am_St) (τ : Int64) (x : Int32) (v0 v1 v3 v4 v5 v6 v7 v8 : Value) : am_run d 56 7 [v0, v1, .int x, v3, v4, v5, v6, v7, v8] st σ τ = am_run d 56 8 [v0, v1, .int x, v3, v4, v5, v6, v7, v8] (.int x :: st) σ τ := rr_iload_n dX9_person_7 rfl
theorem r56_8 (d : Nat) (ls st : List Value) (σ : am_St) (τ : Int64) (x : Int32) : am_run d 56 8 ls (.int x :: st) σ τ = if x = 0 then am_run d 56 19 ls st σ τ else am_run d 56 11 ls st σ τ := (rr_if 19 dX9_person_8 (by decide)).trans am_sel
theorem r56_11 (d : Nat) (st : List Value) (σ : am_St) (τ : Int64) (x : Int32) (v0 v1 v3 v4 v5 v6 v7 v8 : Value) : am_run d 56 11 [v0, v1, .int x, v3, v4, v5, v6, v7, v8] st σ τ = am_run d 56 12 [v0, v1, .int x, v3, v4, v5, v6, v7, v8] (.int x :: st) σ τ := rr_iload_n dX9_person_11 rfl
theorem r56_12 (d : Nat) (ls st : List Value) (σ : am_St) (τ : Int64) : am_run d 56 12 ls st σ τ = am_run d 56 13 ls (.int 1 :: st) σ τ := rr_iconst 1 dX9_person_12 (by decide)
theorem r56_13 (d : Nat) (ls st : List Value) (σ : am_St) (τ : Int64) (x y : Int32) : am_run d 56 13 ls (.int y :: .int x :: st) σ τ = if x = y then am_run d 56 19 ls st σ τ else am_run d 56 16 ls st σ τ := (rr_icmp 19 dX9_person_13 (by decide)).trans am_sel
theorem r56_16 (d : Nat) (ls st : List Value) (σ : am_St) (τ : Int64) : am_run d 56 16 ls st σ τ = am_run d 56 18 ls (.int (-102) :: st) σ τ := rr_bipush (-102) dX9_person_16 (by decide)
theorem r56_18 (d : Nat) (ls : List Value) (σ : am_St) (τ : Int64) (x : Int32) : am_run d 56 18 ls [.int x] σ τ = some (some (.int x), σ, τ) := rr_iret dX9_person_18 rfl
theorem r56_19 (d : Nat) (st : List Value) (σ : am_St) (τ : Int64) (x : Int32) (v0 v2 v3 v4 v5 v6 v7 v8 : Value) : am_run d 56 19 [v0, .int x, v2, v3, v4, v5, v6, v7, v8] st σ τ = am_run d 56 20 [v0, .int x, v2, v3, v4, v5, v6, v7, v8] (.int x :: st) σ τ := rr_iload_n dX9_person_19 rfl
theorem r56_20 (d : Nat) (ls st : List Value) (σ : am_St) (τ : Int64) : am_run d 56 20 ls st σ τ = am_run d 56 21 ls (.int 1 :: st) σ τ := rr_iconst 1 dX9_person_20 (by decide)
theorem r56_21 (d : Nat) (ls st : List Value) (σ : am_St) (τ : Int64) (x y : Int32) : am_run d 56 21 ls (.int y :: .int x :: st) σ τ = if x = y then am_run d 56 29 ls st σ τ else am_run d 56 24 ls st σ τ := (rr_icmp 29 dX9_person_21 (by decide)).trans am_sel
theorem r56_24 (d : Nat) (st : List Value) (σ : am_St) (τ : Int64) (x : Int32) (v0 v2 v3 v4 v5 v6 v7 v8 : Value) : am_run d 56 24 [v0, .int x, v2, v3, v4, v5, v6, v7, v8] st σ τ = am_run d 56 25 [v0, .int x, v2, v3, v4, v5, v6, v7, v8] (.int x :: st) σ τ := rr_iload_n dX9_person_24 rfl
theorem r56_25 (d : Nat) (ls st : List Value) (σ : am_St) (τ : Int64) : am_run d 56 25 ls st σ τ = am_run d 56 26 ls (.int 3 :: st) σ τ := rr_iconst 3 dX9_person_25 (by decide)
theorem r56_26 (d : Nat) (ls st : List Value) (σ : am_St) (τ : Int64) (x y : Int32) : am_run d 56 26 ls (.int y :: .int x :: st) σ τ = if x = y then am_run d 56 29 ls st σ τ else am_run d 56 33 ls st σ τ := (rr_icmp 33 dX9_person_26 (by decide)).trans am_seln
theorem r56_29 (d : Nat) (ls st : List Value) (σ : am_St) (τ : Int64) : am_run d 56 29 ls st σ τ = am_run d 56 30 ls (.int 1 :: st) σ τ := rr_iconst 1 dX9_person_29 (by decide)
theorem r56_30 (d : Nat) (ls st : List Value) (σ : am_St) (τ : Int64) : am_run d 56 30 ls st σ τ = am_run d 56 34 ls st σ τ := rr_goto 34 dX9_person_30 (by decide)
theorem r56_33 (d : Nat) (ls st : List Value) (σ : am_St) (τ : Int64) : am_run d 56 33 ls st σ τ = am_run d 56 34 ls (.int 0 :: st) σ τ := rr_iconst 0 dX9_person_33 (by decide)
theorem r56_34 (d : Nat) (st : List Value) (σ : am_St) (τ : Int64) (x : Int32) (v0 v1 v2 v3 v4 v5 v6 v7 v8 : Value) : am_run d 56 34 [v0, v1, v2, v3, v4, v5, v6, v7, v8] (.int x :: st) σ τ = am_run d 56 36 [v0, v1, v2, v3, v4, am_nl v5, .int x, v7, v8] st σ τ := rr_istore _ dX9_person_34 (by decide) (by first | rfl | (by_cases h : v5.category = 2 <;> simp [am_set1, am_nl, h]))
theorem r56_36 (d : Nat) (st : List Value) (σ : am_St) (τ : Int64) (x : Int32) (v0 v1 v2 v3 v4 v5 v7 v8 : Value) : am_run d 56 36 [v0, v1, v2, v3, v4, v5, .int x, v7, v8] st σ τ = am_run d 56 38 [v0, v1, v2, v3, v4, v5, .int x, v7, v8] (.int x :: st) σ τ := rr_iload dX9_person_36 rfl
theorem r56_38 (d : Nat) (ls st : List Value) (σ : am_St) (τ : Int64) (x : Int32) : am_run d 56 38 ls (.int x :: st) σ τ = if x = 0 then am_run d 56 60 ls st σ τ else am_run d 56 41 ls st σ τ := (rr_if 60 dX9_person_38 (by decide)).trans am_sel
theorem r56_41 (d : Nat) (st : List Value) (σ : am_St) (τ : Int64) (x : Int32) (v0 v1 v2 v4 v5 v6 v7 v8 : Value) : am_run d 56 41 [v0, v1, v2, .int x, v4, v5, v6, v7, v8] st σ τ = am_run d 56 42 [v0, v1, v2, .int x, v4, v5, v6, v7, v8] (.int x :: st) σ τ := rr_iload_n dX9_person_41 rfl
theorem r56_42 (d : Nat) (ls st : List Value) (σ : am_St) (τ : Int64) : am_run d 56 42 ls st σ τ = am_run d 56 43 ls (.int (-1) :: st) σ τ := rr_iconst (-1) dX9_person_42 (by decide)
theorem r56_43 (d : Nat) (ls st : List Value) (σ : am_St) (τ : Int64) (x y : Int32) : am_run d 56 43 ls (.int y :: .int x :: st) σ τ = if x = y then am_run d 56 46 ls st σ τ else am_run d 56 56 ls st σ τ := (rr_icmp 56 dX9_person_43 (by decide)).trans am_seln
theorem r56_46 (d : Nat) (st : List Value) (σ : am_St) (τ : Int64) (x : Int32) (v0 v1 v2 v3 v5 v6 v7 v8 : Value) : am_run d 56 46 [v0, v1, v2, v3, .int x, v5, v6, v7, v8] st σ τ = am_run d 56 48 [v0, v1, v2, v3, .int x, v5, v6, v7, v8] (.int x :: st) σ τ := rr_iload dX9_person_46 rfl
theorem r56_48 (d : Nat) (ls st : List Value) (σ : am_St) (τ : Int64) : am_run d 56 48 ls st σ τ = am_run d 56 49 ls (.int (-1) :: st) σ τ := rr_iconst (-1) dX9_person_48 (by decide)
theorem r56_49 (d : Nat) (ls st : List Value) (σ : am_St) (τ : Int64) (x y : Int32) : am_run d 56 49 ls (.int y :: .int x :: st) σ τ = if x = y then am_run d 56 52 ls st σ τ else am_run d 56 56 ls st σ τ := (rr_icmp 56 dX9_person_49 (by decide)).trans am_seln
theorem r56_52 (d : Nat) (ls st : List Value) (σ : am_St) (τ : Int64) : am_run d 56 52 ls st σ τ = am_run d 56 53 ls (.int 1 :: st) σ τ := rr_iconst 1 dX9_person_52 (by decide)
theorem r56_53 (d : Nat) (ls st : List Value) (σ : am_St) (τ : Int64) : am_run d 56 53 ls st σ τ = am_run d 56 89 ls st σ τ := rr_goto 89 dX9_person_53 (by decide)
theorem r56_56 (d : Nat) (ls st : List Value) (σ : am_St) (τ : Int64) : am_run d 56 56 ls st σ τ = am_run d 56 57 ls (.int 0 :: st) σ τ := rr_iconst 0 dX9_person_56 (by decide)
theorem r56_57 (d : Nat) (ls st : List Value) (σ : am_St) (τ : Int64) : am_run d 56 57 ls st σ τ = am_run d 56 89 ls st σ τ := rr_goto 89 dX9_person_57 (by decide)
theorem r56_60 (d : Nat) (st : List Value) (σ : am_St) (τ : Int64) (x : Nat) (v1 v2 v3 v4 v5 v6 v7 v8 : Value) : am_run d 56 60 [.ref x, v1, v2, v3, v4, v5, v6, v7, v8] st σ τ = am_run d 56 61 [.ref x, v1, v2, v3, v4, v5, v6, v7, v8] (.ref x :: st) σ τ := rr_aload_n dX9_person_60 rfl
theorem r56_61 (d : Nat) (ls st : List Value) (σ : am_St) (τ : Int64) (k : Nat) : am_run d 56 61 ls (.ref k :: st) σ τ = am_gf k 9 2 σ τ (fun v => am_run d 56 64 ls (v :: st) σ τ) := rr_getf dX9_person_61 (by decide +kernel)
theorem r56_64 (d : Nat) (st : List Value) (σ : am_St) (τ : Int64) (x : Int32) (v0 v1 v2 v4 v5 v6 v7 v8 : Value) : am_run d 56 64 [v0, v1, v2, .int x, v4, v5, v6, v7, v8] st σ τ = am_run d 56 65 [v0, v1, v2, .int x, v4, v5, v6, v7, v8] (.int x :: st) σ τ := rr_iload_n dX9_person_64 rfl
theorem r56_65 (d : Nat) (ls st : List Value) (σ : am_St) (τ : Int64) (k : Nat) (a0 : Int32) (hk : am_kc k = 1) (hc : am_cats st ≤ 8) : am_run (d + 1) 56 65 ls (.int a0 :: .ref k :: st) σ τ = (am_call d 9 [.ref k, .int a0] σ τ).bind (fun r => am_run (d + 1) 56 68 ls (r.1.toList ++ st) r.2.1 r.2.2) := rr_invv [.int a0] dX9_person_65 (by decide +kernel) (by decide) rfl (Nat.le_of_ble_eq_true rfl) hk hc
theorem r56_68 (d : Nat) (ls st : List Value) (σ : am_St) (τ : Int64) (x : Int32) : am_run d 56 68 ls (.int x :: st) σ τ = if x = 0 then am_run d 56 88 ls st σ τ else am_run d 56 71 ls st σ τ := (rr_if 88 dX9_person_68 (by decide)).trans am_sel
theorem r56_71 (d : Nat) (st : List Value) (σ : am_St) (τ : Int64) (x : Nat) (v1 v2 v3 v4 v5 v6 v7 v8 : Value) : am_run d 56 71 [.ref x, v1, v2, v3, v4, v5, v6, v7, v8] st σ τ = am_run d 56 72 [.ref x, v1, v2, v3, v4, v5, v6, v7, v8] (.ref x :: st) σ τ := rr_aload_n dX9_person_71 rfl
theorem r56_72 (d : Nat) (ls st : List Value) (σ : am_St) (τ : Int64) (k : Nat) : am_run d 56 72 ls (.ref k :: st) σ τ = am_gf k 9 2 σ τ (fun v => am_run d 56 75 ls (v :: st) σ τ) := rr_getf dX9_person_72 (by decide +kernel)
theorem r56_75 (d : Nat) (st : List Value) (σ : am_St) (τ : Int64) (x : Int32) (v0 v1 v2 v3 v5 v6 v7 v8 : Value) : am_run d 56 75 [v0, v1, v2, v3, .int x, v5, v6, v7, v8] st σ τ = am_run d 56 77 [v0, v1, v2, v3, .int x, v5, v6, v7, v8] (.int x :: st) σ τ := rr_iload dX9_person_75 rfl
theorem r56_77 (d : Nat) (ls st : List Value) (σ : am_St) (τ : Int64) : am_run d 56 77 ls st σ τ = am_run d 56 78 ls (.int 1 :: st) σ τ := rr_iconst 1 dX9_person_77 (by decide)
theorem r56_78 (d : Nat) (ls st : List Value) (σ : am_St) (τ : Int64) (k : Nat) (a0 : Int32) (a1 : Int32) (hk : am_kc k = 1) (hc : am_cats st ≤ 8) : am_run (d + 1) 56 78 ls (.int a1 :: .int a0 :: .ref k :: st) σ τ = (am_call d 7 [.ref k, .int a0, .int a1] σ τ).bind (fun r => am_run (d + 1) 56 81 ls (r.1.toList ++ st) r.2.1 r.2.2) := rr_invv [.int a0, .int a1] dX9_person_78 (by decide +kernel) (by decide) rfl (Nat.le_of_ble_eq_true rfl) hk hc
theorem r56_81 (d : Nat) (ls st : List Value) (σ : am_St) (τ : Int64) (x : Int32) : am_run d 56 81 ls (.int x :: st) σ τ = if x = 0 then am_run d 56 88 ls st σ τ else am_run d 56 84 ls st σ τ := (rr_if 88 dX9_person_81 (by decide)).trans am_sel
theorem r56_84 (d : Nat) (ls st : List Value) (σ : am_St) (τ : Int64) : am_run d 56 84 ls st σ τ = am_run d 56 85 ls (.int 1 :: st) σ τ := rr_iconst 1 dX9_person_84 (by decide)
theorem r56_85 (d : Nat) (ls st : List Value) (σ : am_St) (τ : Int64) : am_run d 56 85 ls st σ τ = am_run d 56 89 ls st σ τ := rr_goto 89 dX9_person_85 (by decide)
theorem r56_88 (d : Nat) (ls st : List Value) (σ : am_St) (τ : Int64) : am_run d 56 88 ls st σ τ = am_run d 56 89 ls (.int 0 :: st) σ τ := rr_iconst 0 dX9_person_88 (by decide)
theorem r56_89 (d : Nat) (st : List Value) (σ : am_St) (τ : Int64) (x : Int32) (v0 v1 v2 v3 v4 v5 v6 v7 v8 : Value) : am_run d 56 89 [v0, v1, v2, v3, v4, v5, v6, v7, v8] (.int x :: st) σ τ = am_run d 56 91 [v0, v1, v2, v3, v4, v5, am_nl v6, .int x, v8] st σ τ := rr_istore _ dX9_person_89 (by decide) (by first | rfl | (by_cases h : v6.category = 2 <;> simp [am_set1, am_nl, h]))
theorem r56_91 (d : Nat) (st : List Value) (σ : am_St) (τ : Int64) (x : Int32) (v0 v1 v2 v3 v4 v5 v6 v8 : Value) : am_run d 56 91 [v0, v1, v2, v3, v4, v5, v6, .int x, v8] st σ τ = am_run d 56 93 [v0, v1, v2, v3, v4, v5, v6, .int x, v8] (.int x :: st) σ τ := rr_iload dX9_person_91 rfl
theorem r56_93 (d : Nat) (ls st : List Value) (σ : am_St) (τ : Int64) (x : Int32) : am_run d 56 93 ls (.int x :: st) σ τ = if x = 0 then am_run d 56 96 ls st σ τ else am_run d 56 99 ls st σ τ := (rr_if 99 dX9_person_93 (by decide)).trans am_seln
theorem r56_96 (d : Nat) (ls st : List Value) (σ : am_St) (τ : Int64) : am_run d 56 96 ls st σ τ = am_run d 56 98 ls (.int (-101) :: st) σ τ := rr_bipush (-101) dX9_person_96 (by decide)
theorem r56_98 (d : Nat) (ls : List Value) (σ : am_St) (τ : Int64) (x : Int32) : am_run d 56 98 ls [.int x] σ τ = some (some (.int x), σ, τ) := rr_iret dX9_person_98 rfl
theorem r56_99 (d : Nat) (st : List Value) (σ : am_St) (τ : Int64) (x : Int32) (v0 v1 v2 v3 v4 v5 v7 v8 : Value) : am_run d 56 99 [v0, v1, v2, v3, v4, v5, .int x, v7, v8] st σ τ = am_run d 56 101 [v0, v1, v2, v3, v4, v5, .int x, v7, v8] (.int x :: st) σ τ := rr_iload dX9_person_99 rfl
theorem r56_101 (d : Nat) (ls st : List Value) (σ : am_St) (τ : Int64) (x : Int32) : am_run d 56 101 ls (.int x :: st) σ τ = if x = 0 then am_run d 56 115 ls st σ τ else am_run d 56 104 ls st σ τ := (rr_if 115 dX9_person_101 (by decide)).trans am_sel
theorem r56_104 (d : Nat) (st : List Value) (σ : am_St) (τ : Int64) (x : Int32) (v0 v1 v2 v3 v4 v6 v7 v8 : Value) : am_run d 56 104 [v0, v1, v2, v3, v4, .int x, v6, v7, v8] st σ τ = am_run d 56 106 [v0, v1, v2, v3, v4, .int x, v6, v7, v8] (.int x :: st) σ τ := rr_iload dX9_person_104 rfl
theorem r56_106 (d : Nat) (ls st : List Value) (σ : am_St) (τ : Int64) (a0 : Int32) (hc : am_cats st ≤ 8) : am_run (d + 1) 56 106 ls (.int a0 :: st) σ τ = (am_call d 81 [.int a0] σ τ).bind (fun r => am_run (d + 1) 56 109 ls (r.1.toList ++ st) r.2.1 r.2.2) := rr_invs [.int a0] dX9_person_106 (by decide +kernel) (by decide +kernel) (by decide) rfl (Nat.le_of_ble_eq_true rfl) hc
theorem r56_109 (d : Nat) (ls st : List Value) (σ : am_St) (τ : Int64) (x : Int32) : am_run d 56 109 ls (.int x :: st) σ τ = if x = 0 then am_run d 56 112 ls st σ τ else am_run d 56 123 ls st σ τ := (rr_if 123 dX9_person_109 (by decide)).trans am_seln
theorem r56_112 (d : Nat) (ls st : List Value) (σ : am_St) (τ : Int64) : am_run d 56 112 ls st σ τ = am_run d 56 120 ls st σ τ := rr_goto 120 dX9_person_112 (by decide)
theorem r56_115 (d : Nat) (st : List Value) (σ : am_St) (τ : Int64) (x : Int32) (v0 v1 v2 v3 v4 v6 v7 v8 : Value) : am_run d 56 115 [v0, v1, v2, v3, v4, .int x, v6, v7, v8] st σ τ = am_run d 56 117 [v0, v1, v2, v3, v4, .int x, v6, v7, v8] (.int x :: st) σ τ := rr_iload dX9_person_115 rfl
theorem r56_117 (d : Nat) (ls st : List Value) (σ : am_St) (τ : Int64) (x : Int32) : am_run d 56 117 ls (.int x :: st) σ τ = if x = 0 then am_run d 56 123 ls st σ τ else am_run d 56 120 ls st σ τ := (rr_if 123 dX9_person_117 (by decide)).trans am_sel
theorem r56_120 (d : Nat) (ls st : List Value) (σ : am_St) (τ : Int64) : am_run d 56 120 ls st σ τ = am_run d 56 122 ls (.int (-102) :: st) σ τ := rr_bipush (-102) dX9_person_120 (by decide)
theorem r56_122 (d : Nat) (ls : List Value) (σ : am_St) (τ : Int64) (x : Int32) : am_run d 56 122 ls [.int x] σ τ = some (some (.int x), σ, τ) := rr_iret dX9_person_122 rfl
theorem r56_123 (d : Nat) (st : List Value) (σ : am_St) (τ : Int64) (x : Nat) (v1 v2 v3 v4 v5 v6 v7 v8 : Value) : am_run d 56 123 [.ref x, v1, v2, v3, v4, v5, v6, v7, v8] st σ τ = am_run d 56 124 [.ref x, v1, v2, v3, v4, v5, v6, v7, v8] (.ref x :: st) σ τ := rr_aload_n dX9_person_123 rfl
theorem r56_124 (d : Nat) (ls st : List Value) (σ : am_St) (τ : Int64) (k : Nat) : am_run d 56 124 ls (.ref k :: st) σ τ = am_gf k 9 2 σ τ (fun v => am_run d 56 127 ls (v :: st) σ τ) := rr_getf dX9_person_124 (by decide +kernel)
theorem r56_127 (d : Nat) (ls st : List Value) (σ : am_St) (τ : Int64) (k : Nat) : am_run d 56 127 ls (.ref k :: st) σ τ = am_gf k 1 0 σ τ (fun v => am_run d 56 130 ls (v :: st) σ τ) := rr_getf dX9_person_127 (by decide +kernel)
theorem r56_130 (d : Nat) (ls st : List Value) (σ : am_St) (τ : Int64) : am_run d 56 130 ls st σ τ = am_run d 56 132 ls (.int 12 :: st) σ τ := rr_bipush 12 dX9_person_130 (by decide)
theorem r56_132 (d : Nat) (ls st : List Value) (σ : am_St) (τ : Int64) (x y : Int32) : am_run d 56 132 ls (.int y :: .int x :: st) σ τ = if y ≤ x then am_run d 56 152 ls st σ τ else am_run d 56 135 ls st σ τ := (rr_icmp 152 dX9_person_132 (by decide)).trans am_sel
theorem r56_135 (d : Nat) (st : List Value) (σ : am_St) (τ : Int64) (x : Int32) (v0 v1 v2 v4 v5 v6 v7 v8 : Value) : am_run d 56 135 [v0, v1, v2, .int x, v4, v5, v6, v7, v8] st σ τ = am_run d 56 136 [v0, v1, v2, .int x, v4, v5, v6, v7, v8] (.int x :: st) σ τ := rr_iload_n dX9_person_135 rfl
theorem r56_136 (d : Nat) (ls st : List Value) (σ : am_St) (τ : Int64) : am_run d 56 136 ls st σ τ = am_run d 56 138 ls (.int (-2) :: st) σ τ := rr_bipush (-2) dX9_person_136 (by decide)
theorem r56_138 (d : Nat) (ls st : List Value) (σ : am_St) (τ : Int64) (x y : Int32) : am_run d 56 138 ls (.int y :: .int x :: st) σ τ = if x = y then am_run d 56 141 ls st σ τ else am_run d 56 155 ls st σ τ := (rr_icmp 155 dX9_person_138 (by decide)).trans am_seln
theorem r56_141 (d : Nat) (st : List Value) (σ : am_St) (τ : Int64) (x : Nat) (v1 v2 v3 v4 v5 v6 v7 v8 : Value) : am_run d 56 141 [.ref x, v1, v2, v3, v4, v5, v6, v7, v8] st σ τ = am_run d 56 142 [.ref x, v1, v2, v3, v4, v5, v6, v7, v8] (.ref x :: st) σ τ := rr_aload_n dX9_person_141 rfl
theorem r56_142 (d : Nat) (ls st : List Value) (σ : am_St) (τ : Int64) (k : Nat) : am_run d 56 142 ls (.ref k :: st) σ τ = am_gf k 9 2 σ τ (fun v => am_run d 56 145 ls (v :: st) σ τ) := rr_getf dX9_person_142 (by decide +kernel)
theorem r56_145 (d : Nat) (ls st : List Value) (σ : am_St) (τ : Int64) (k : Nat)  (hk : am_kc k = 1) (hc : am_cats st ≤ 8) : am_run (d + 1) 56 145 ls (.ref k :: st) σ τ = (am_call d 11 [.ref k] σ τ).bind (fun r => am_run (d + 1) 56 148 ls (r.1.toList ++ st) r.2.1 r.2.2) := rr_invv [] dX9_person_145 (by decide +kernel) (by decide) rfl (Nat.le_of_ble_eq_true rfl) hk hc
theorem r56_148 (d : Nat) (ls st : List Value) (σ : am_St) (τ : Int64) : am_run d 56 148 ls st σ τ = am_run d 56 149 ls (.int 3 :: st) σ τ := rr_iconst 3 dX9_person_148 (by decide)
theorem r56_149 (d : Nat) (ls st : List Value) (σ : am_St) (τ : Int64) (x y : Int32) : am_run d 56 149 ls (.int y :: .int x :: st) σ τ = if x < y then am_run d 56 155 ls st σ τ else am_run d 56 152 ls st σ τ := (rr_icmp 155 dX9_person_149 (by decide)).trans am_sel
theorem r56_152 (d : Nat) (ls st : List Value) (σ : am_St) (τ : Int64) : am_run d 56 152 ls st σ τ = am_run d 56 154 ls (.int (-104) :: st) σ τ := rr_bipush (-104) dX9_person_152 (by decide)
theorem r56_154 (d : Nat) (ls : List Value) (σ : am_St) (τ : Int64) (x : Int32) : am_run d 56 154 ls [.int x] σ τ = some (some (.int x), σ, τ) := rr_iret dX9_person_154 rfl
theorem r56_155 (d : Nat) (st : List Value) (σ : am_St) (τ : Int64) (x : Nat) (v1 v2 v3 v4 v5 v6 v7 v8 : Value) : am_run d 56 155 [.ref x, v1, v2, v3, v4, v5, v6, v7, v8] st σ τ = am_run d 56 156 [.ref x, v1, v2, v3, v4, v5, v6, v7, v8] (.ref x :: st) σ τ := rr_aload_n dX9_person_155 rfl
theorem r56_156 (d : Nat) (ls st : List Value) (σ : am_St) (τ : Int64) (k : Nat) : am_run d 56 156 ls (.ref k :: st) σ τ = am_gf k 9 2 σ τ (fun v => am_run d 56 159 ls (v :: st) σ τ) := rr_getf dX9_person_156 (by decide +kernel)
theorem r56_159 (d : Nat) (st : List Value) (σ : am_St) (τ : Int64) (x : Int32) (v0 v2 v3 v4 v5 v6 v7 v8 : Value) : am_run d 56 159 [v0, .int x, v2, v3, v4, v5, v6, v7, v8] st σ τ = am_run d 56 160 [v0, .int x, v2, v3, v4, v5, v6, v7, v8] (.int x :: st) σ τ := rr_iload_n dX9_person_159 rfl
theorem r56_160 (d : Nat) (st : List Value) (σ : am_St) (τ : Int64) (x : Int32) (v0 v1 v3 v4 v5 v6 v7 v8 : Value) : am_run d 56 160 [v0, v1, .int x, v3, v4, v5, v6, v7, v8] st σ τ = am_run d 56 161 [v0, v1, .int x, v3, v4, v5, v6, v7, v8] (.int x :: st) σ τ := rr_iload_n dX9_person_160 rfl
theorem r56_161 (d : Nat) (st : List Value) (σ : am_St) (τ : Int64) (x : Int32) (v0 v1 v2 v4 v5 v6 v7 v8 : Value) : am_run d 56 161 [v0, v1, v2, .int x, v4, v5, v6, v7, v8] st σ τ = am_run d 56 162 [v0, v1, v2, .int x, v4, v5, v6, v7, v8] (.int x :: st) σ τ := rr_iload_n dX9_person_161 rfl
theorem r56_162 (d : Nat) (st : List Value) (σ : am_St) (τ : Int64) (x : Int32) (v0 v1 v2 v3 v5 v6 v7 v8 : Value) : am_run d 56 162 [v0, v1, v2, v3, .int x, v5, v6, v7, v8] st σ τ = am_run d 56 164 [v0, v1, v2, v3, .int x, v5, v6, v7, v8] (.int x :: st) σ τ := rr_iload dX9_person_162 rfl
theorem r56_164 (d : Nat) (st : List Value) (σ : am_St) (τ : Int64) (x : Int32) (v0 v1 v2 v3 v4 v6 v7 v8 : Value) : am_run d 56 164 [v0, v1, v2, v3, v4, .int x, v6, v7, v8] st σ τ = am_run d 56 166 [v0, v1, v2, v3, v4, .int x, v6, v7, v8] (.int x :: st) σ τ := rr_iload dX9_person_164 rfl
theorem r56_166 (d : Nat) (ls st : List Value) (σ : am_St) (τ : Int64) (k : Nat) (a0 : Int32) (a1 : Int32) (a2 : Int32) (a3 : Int32) (a4 : Int32) (hk : am_kc k = 1) (hc : am_cats st ≤ 8) : am_run (d + 1) 56 166 ls (.int a4 :: .int a3 :: .int a2 :: .int a1 :: .int a0 :: .ref k :: st) σ τ = (am_call d 15 [.ref k, .int a0, .int a1, .int a2, .int a3, .int a4] σ τ).bind (fun r => am_run (d + 1) 56 169 ls (r.1.toList ++ st) r.2.1 r.2.2) := rr_invv [.int a0, .int a1, .int a2, .int a3, .int a4] dX9_person_166 (by decide +kernel) (by decide) rfl (Nat.le_of_ble_eq_true rfl) hk hc
theorem r56_169 (d : Nat) (st : List Value) (σ : am_St) (τ : Int64) (x : Int32) (v0 v1 v2 v3 v4 v5 v6 v7 v8 : Value) : am_run d 56 169 [v0, v1, v2, v3, v4, v5, v6, v7, v8] (.int x :: st) σ τ = am_run d 56 171 [v0, v1, v2, v3, v4, v5, v6, am_nl v7, .int x] st σ τ := rr_istore _ dX9_person_169 (by decide) (by first | rfl | (by_cases h : v7.category = 2 <;> simp [am_set1, am_nl, h]))
theorem r56_171 (d : Nat) (st : List Value) (σ : am_St) (τ : Int64) (x : Nat) (v1 v2 v3 v4 v5 v6 v7 v8 : Value) : am_run d 56 171 [.ref x, v1, v2, v3, v4, v5, v6, v7, v8] st σ τ = am_run d 56 172 [.ref x, v1, v2, v3, v4, v5, v6, v7, v8] (.ref x :: st) σ τ := rr_aload_n dX9_person_171 rfl
theorem r56_172 (d : Nat) (ls st : List Value) (σ : am_St) (τ : Int64) (k : Nat)  (hk : am_kc k = 9) (hc : am_cats st ≤ 8) : am_run (d + 1) 56 172 ls (.ref k :: st) σ τ = (am_call d 77 [.ref k] σ τ).bind (fun r => am_run (d + 1) 56 175 ls (r.1.toList ++ st) r.2.1 r.2.2) := rr_invv [] dX9_person_172 (by decide +kernel) (by decide) rfl (Nat.le_of_ble_eq_true rfl) hk hc
theorem r56_175 (d : Nat) (st : List Value) (σ : am_St) (τ : Int64) (x : Int32) (v0 v1 v2 v3 v4 v5 v6 v7 : Value) : am_run d 56 175 [v0, v1, v2, v3, v4, v5, v6, v7, .int x] st σ τ = am_run d 56 177 [v0, v1, v2, v3, v4, v5, v6, v7, .int x] (.int x :: st) σ τ := rr_iload dX9_person_175 rfl
theorem r56_177 (d : Nat) (ls : List Value) (σ : am_St) (τ : Int64) (x : Int32) : am_run d 56 177 ls [.int x] σ τ = some (some (.int x), σ, τ) := rr_iret dX9_person_177 rfl
theorem dX9_about_0 : decode (am_code 57) 0 = .ok (.aload_n 0, 1) := by decide +kernel
theorem dX9_about_1 : decode (am_code 57) 1 = .ok (.getfield 28, 3) := by decide +kernel
theorem dX9_about_4 : decode (am_code 57) 4 = .ok (.iload_n 1, 1) := by decide +kernel
theorem dX9_about_5 : decode (am_code 57) 5 = .ok (.invokevirtual 143, 3) := by decide +kernel
theorem dX9_about_8 : decode (am_code 57) 8 = .ok (.ifCond .ne 6, 3) := by decide +kernel
theorem dX9_about_11 : decode (am_code 57) 11 = .ok (.bipush (-101), 2) := by decide +kernel
theorem dX9_about_13 : decode (am_code 57) 13 = .ok (.ireturn, 1) := by decide +kernel
theorem dX9_about_14 : decode (am_code 57) 14 = .ok (.iload_n 2, 1) := by decide +kernel
theorem dX9_about_15 : decode (am_code 57) 15 = .ok (.tableswitch 150 0 7 #[45, 55, 65, 92, 102, 112, 122, 140], 45) := by decide +kernel
theorem dX9_about_60 : decode (am_code 57) 60 = .ok (.aload_n 0, 1) := by decide +kernel
theorem dX9_about_61 : decode (am_code 57) 61 = .ok (.getfield 28, 3) := by decide +kernel
theorem dX9_about_64 : decode (am_code 57) 64 = .ok (.getfield 146, 3) := by decide +kernel
theorem dX9_about_67 : decode (am_code 57) 67 = .ok (.iload_n 1, 1) := by decide +kernel
theorem dX9_about_68 : decode (am_code 57) 68 = .ok (.iaload, 1) := by decide +kernel
theorem dX9_about_69 : decode (am_code 57) 69 = .ok (.ireturn, 1) := by decide +kernel
theorem dX9_about_70 : decode (am_code 57) 70 = .ok (.aload_n 0, 1) := by decide +kernel
theorem dX9_about_71 : decode (am_code 57) 71 = .ok (.getfield 28, 3) := by decide +kernel
theorem dX9_about_74 : decode (am_code 57) 74 = .ok (.getfield 150, 3) := by decide +kernel
theorem dX9_about_77 : decode (am_code 57) 77 = .ok (.iload_n 1, 1) := by decide +kernel
theorem dX9_about_78 : decode (am_code 57) 78 = .ok (.iaload, 1) := by decide +kernel
theorem dX9_about_79 : decode (am_code 57) 79 = .ok (.ireturn, 1) := by decide +kernel
theorem dX9_about_80 : decode (am_code 57) 80 = .ok (.aload_n 0, 1) := by decide +kernel
theorem dX9_about_81 : decode (am_code 57) 81 = .ok (.getfield 28, 3) := by decide +kernel
theorem dX9_about_84 : decode (am_code 57) 84 = .ok (.getfield 153, 3) := by decide +kernel
theorem dX9_about_87 : decode (am_code 57) 87 = .ok (.iload_n 1, 1) := by decide +kernel
theorem dX9_about_88 : decode (am_code 57) 88 = .ok (.baload, 1) := by decide +kernel
theorem dX9_about_89 : decode (am_code 57) 89 = .ok (.ifCond .eq 8, 3) := by decide +kernel
theorem dX9_about_92 : decode (am_code 57) 92 = .ok (.bipush (-2), 2) := by decide +kernel
theorem dX9_about_94 : decode (am_code 57) 94 = .ok (.goto 12, 3) := by decide +kernel
theorem dX9_about_97 : decode (am_code 57) 97 = .ok (.aload_n 0, 1) := by decide +kernel
theorem dX9_about_98 : decode (am_code 57) 98 = .ok (.getfield 28, 3) := by decide +kernel
theorem dX9_about_101 : decode (am_code 57) 101 = .ok (.getfield 157, 3) := by decide +kernel
theorem dX9_about_104 : decode (am_code 57) 104 = .ok (.iload_n 1, 1) := by decide +kernel
theorem dX9_about_105 : decode (am_code 57) 105 = .ok (.iaload, 1) := by decide +kernel
theorem dX9_about_106 : decode (am_code 57) 106 = .ok (.ireturn, 1) := by decide +kernel
theorem dX9_about_107 : decode (am_code 57) 107 = .ok (.aload_n 0, 1) := by decide +kernel
theorem dX9_about_108 : decode (am_code 57) 108 = .ok (.getfield 28, 3) := by decide +kernel
theorem dX9_about_111 : decode (am_code 57) 111 = .ok (.getfield 160, 3) := by decide +kernel
theorem dX9_about_114 : decode (am_code 57) 114 = .ok (.iload_n 1, 1) := by decide +kernel
theorem dX9_about_115 : decode (am_code 57) 115 = .ok (.iaload, 1) := by decide +kernel
theorem dX9_about_116 : decode (am_code 57) 116 = .ok (.ireturn, 1) := by decide +kernel
theorem dX9_about_117 : decode (am_code 57) 117 = .ok (.aload_n 0, 1) := by decide +kernel
theorem dX9_about_118 : decode (am_code 57) 118 = .ok (.getfield 37, 3) := by decide +kernel
theorem dX9_about_121 : decode (am_code 57) 121 = .ok (.getfield 163, 3) := by decide +kernel
theorem dX9_about_124 : decode (am_code 57) 124 = .ok (.iload_n 1, 1) := by decide +kernel
theorem dX9_about_125 : decode (am_code 57) 125 = .ok (.iaload, 1) := by decide +kernel
theorem dX9_about_126 : decode (am_code 57) 126 = .ok (.ireturn, 1) := by decide +kernel
theorem dX9_about_127 : decode (am_code 57) 127 = .ok (.aload_n 0, 1) := by decide +kernel
theorem dX9_about_128 : decode (am_code 57) 128 = .ok (.getfield 28, 3) := by decide +kernel
theorem dX9_about_131 : decode (am_code 57) 131 = .ok (.getfield 166, 3) := by decide +kernel
theorem dX9_about_134 : decode (am_code 57) 134 = .ok (.iload_n 1, 1) := by decide +kernel
theorem dX9_about_135 : decode (am_code 57) 135 = .ok (.iaload, 1) := by decide +kernel
theorem dX9_about_136 : decode (am_code 57) 136 = .ok (.ireturn, 1) := by decide +kernel
theorem dX9_about_137 : decode (am_code 57) 137 = .ok (.aload_n 0, 1) := by decide +kernel
theorem dX9_about_138 : decode (am_code 57) 138 = .ok (.getfield 28, 3) := by decide +kernel
theorem dX9_about_141 : decode (am_code 57) 141 = .ok (.getfield 169, 3) := by decide +kernel
theorem dX9_about_144 : decode (am_code 57) 144 = .ok (.iload_n 1, 1) := by decide +kernel
theorem dX9_about_145 : decode (am_code 57) 145 = .ok (.baload, 1) := by decide +kernel
theorem dX9_about_146 : decode (am_code 57) 146 = .ok (.ifCond .eq 7, 3) := by decide +kernel
theorem dX9_about_149 : decode (am_code 57) 149 = .ok (.iconst 1, 1) := by decide +kernel
theorem dX9_about_150 : decode (am_code 57) 150 = .ok (.goto 4, 3) := by decide +kernel
theorem dX9_about_153 : decode (am_code 57) 153 = .ok (.iconst 0, 1) := by decide +kernel
theorem dX9_about_154 : decode (am_code 57) 154 = .ok (.ireturn, 1) := by decide +kernel
theorem dX9_about_155 : decode (am_code 57) 155 = .ok (.aload_n 0, 1) := by decide +kernel
theorem dX9_about_156 : decode (am_code 57) 156 = .ok (.getfield 28, 3) := by decide +kernel
theorem dX9_about_159 : decode (am_code 57) 159 = .ok (.getfield 172, 3) := by decide +kernel
theorem dX9_about_162 : decode (am_code 57) 162 = .ok (.iload_n 1, 1) := by decide +kernel
theorem dX9_about_163 : decode (am_code 57) 163 = .ok (.iaload, 1) := by decide +kernel
theorem dX9_about_164 : decode (am_code 57) 164 = .ok (.ireturn, 1) := by decide +kernel
theorem dX9_about_165 : decode (am_code 57) 165 = .ok (.bipush (-102), 2) := by decide +kernel
theorem dX9_about_167 : decode (am_code 57) 167 = .ok (.ireturn, 1) := by decide +kernel
theorem r57_0 (d : Nat) (st : List Value) (σ : am_St) (τ : Int64) (x : Nat) (v1 v2 : Value) : am_run d 57 0 [.ref x, v1, v2] st σ τ = am_run d 57 1 [.ref x, v1, v2] (.ref x :: st) σ τ := rr_aload_n dX9_about_0 rfl
theorem r57_1 (d : Nat) (ls st : List Value) (σ : am_St) (τ : Int64) (k : Nat) : am_run d 57 1 ls (.ref k :: st) σ τ = am_gf k 9 2 σ τ (fun v => am_run d 57 4 ls (v :: st) σ τ) := rr_getf dX9_about_1 (by decide +kernel)
theorem r57_4 (d : Nat) (st : List Value) (σ : am_St) (τ : Int64) (x : Int32) (v0 v2 : Value) : am_run d 57 4 [v0, .int x, v2] st σ τ = am_run d 57 5 [v0, .int x, v2] (.int x :: st) σ τ := rr_iload_n dX9_about_4 rfl
theorem r57_5 (d : Nat) (ls st : List Value) (σ : am_St) (τ : Int64) (k : Nat) (a0 : Int32) (hk : am_kc k = 1) (hc : am_cats st ≤ 8) : am_run (d + 1) 57 5 ls (.int a0 :: .ref k :: st) σ τ = (am_call d 6 [.ref k, .int a0] σ τ).bind (fun r => am_run (d + 1) 57 8 ls (r.1.toList ++ st) r.2.1 r.2.2) := rr_invv [.int a0] dX9_about_5 (by decide +kernel) (by decide) rfl (Nat.le_of_ble_eq_true rfl) hk hc
theorem r57_8 (d : Nat) (ls st : List Value) (σ : am_St) (τ : Int64) (x : Int32) : am_run d 57 8 ls (.int x :: st) σ τ = if x = 0 then am_run d 57 11 ls st σ τ else am_run d 57 14 ls st σ τ := (rr_if 14 dX9_about_8 (by decide)).trans am_seln
theorem r57_11 (d : Nat) (ls st : List Value) (σ : am_St) (τ : Int64) : am_run d 57 11 ls st σ τ = am_run d 57 13 ls (.int (-101) :: st) σ τ := rr_bipush (-101) dX9_about_11 (by decide)
theorem r57_13 (d : Nat) (ls : List Value) (σ : am_St) (τ : Int64) (x : Int32) : am_run d 57 13 ls [.int x] σ τ = some (some (.int x), σ, τ) := rr_iret dX9_about_13 rfl
theorem r57_14 (d : Nat) (st : List Value) (σ : am_St) (τ : Int64) (x : Int32) (v0 v1 : Value) : am_run d 57 14 [v0, v1, .int x] st σ τ = am_run d 57 15 [v0, v1, .int x] (.int x :: st) σ τ := rr_iload_n dX9_about_14 rfl
theorem r57_15 (d : Nat) (ls st : List Value) (σ : am_St) (τ : Int64) (x : Int32) : am_run d 57 15 ls (.int x :: st) σ τ = am_run d 57 (am_sw x 0 [60, 70, 80, 107, 117, 127, 137, 155] 165) ls st σ τ := rr_tsw [60, 70, 80, 107, 117, 127, 137, 155] 165 dX9_about_15 (by decide) (by decide) (by decide)
theorem r57_60 (d : Nat) (st : List Value) (σ : am_St) (τ : Int64) (x : Nat) (v1 v2 : Value) : am_run d 57 60 [.ref x, v1, v2] st σ τ = am_run d 57 61 [.ref x, v1, v2] (.ref x :: st) σ τ := rr_aload_n dX9_about_60 rfl
theorem r57_61 (d : Nat) (ls st : List Value) (σ : am_St) (τ : Int64) (k : Nat) : am_run d 57 61 ls (.ref k :: st) σ τ = am_gf k 9 2 σ τ (fun v => am_run d 57 64 ls (v :: st) σ τ) := rr_getf dX9_about_61 (by decide +kernel)
theorem r57_64 (d : Nat) (ls st : List Value) (σ : am_St) (τ : Int64) (k : Nat) : am_run d 57 64 ls (.ref k :: st) σ τ = am_gf k 1 1 σ τ (fun v => am_run d 57 67 ls (v :: st) σ τ) := rr_getf dX9_about_64 (by decide +kernel)
theorem r57_67 (d : Nat) (st : List Value) (σ : am_St) (τ : Int64) (x : Int32) (v0 v2 : Value) : am_run d 57 67 [v0, .int x, v2] st σ τ = am_run d 57 68 [v0, .int x, v2] (.int x :: st) σ τ := rr_iload_n dX9_about_67 rfl
theorem r57_68 (d : Nat) (ls st : List Value) (σ : am_St) (τ : Int64) (i : Int32) (k : Nat) : am_run d 57 68 ls (.int i :: .ref k :: st) σ τ = am_ai false k i (fun j => am_run d 57 69 ls (.int (σ k j) :: st) σ τ) := rr_iald dX9_about_68
theorem r57_69 (d : Nat) (ls : List Value) (σ : am_St) (τ : Int64) (x : Int32) : am_run d 57 69 ls [.int x] σ τ = some (some (.int x), σ, τ) := rr_iret dX9_about_69 rfl
theorem r57_70 (d : Nat) (st : List Value) (σ : am_St) (τ : Int64) (x : Nat) (v1 v2 : Value) : am_run d 57 70 [.ref x, v1, v2] st σ τ = am_run d 57 71 [.ref x, v1, v2] (.ref x :: st) σ τ := rr_aload_n dX9_about_70 rfl
theorem r57_71 (d : Nat) (ls st : List Value) (σ : am_St) (τ : Int64) (k : Nat) : am_run d 57 71 ls (.ref k :: st) σ τ = am_gf k 9 2 σ τ (fun v => am_run d 57 74 ls (v :: st) σ τ) := rr_getf dX9_about_71 (by decide +kernel)
theorem r57_74 (d : Nat) (ls st : List Value) (σ : am_St) (τ : Int64) (k : Nat) : am_run d 57 74 ls (.ref k :: st) σ τ = am_gf k 1 2 σ τ (fun v => am_run d 57 77 ls (v :: st) σ τ) := rr_getf dX9_about_74 (by decide +kernel)
theorem r57_77 (d : Nat) (st : List Value) (σ : am_St) (τ : Int64) (x : Int32) (v0 v2 : Value) : am_run d 57 77 [v0, .int x, v2] st σ τ = am_run d 57 78 [v0, .int x, v2] (.int x :: st) σ τ := rr_iload_n dX9_about_77 rfl
theorem r57_78 (d : Nat) (ls st : List Value) (σ : am_St) (τ : Int64) (i : Int32) (k : Nat) : am_run d 57 78 ls (.int i :: .ref k :: st) σ τ = am_ai false k i (fun j => am_run d 57 79 ls (.int (σ k j) :: st) σ τ) := rr_iald dX9_about_78
theorem r57_79 (d : Nat) (ls : List Value) (σ : am_St) (τ : Int64) (x : Int32) : am_run d 57 79 ls [.int x] σ τ = some (some (.int x), σ, τ) := rr_iret dX9_about_79 rfl
theorem r57_80 (d : Nat) (st : List Value) (σ : am_St) (τ : Int64) (x : Nat) (v1 v2 : Value) : am_run d 57 80 [.ref x, v1, v2] st σ τ = am_run d 57 81 [.ref x, v1, v2] (.ref x :: st) σ τ := rr_aload_n dX9_about_80 rfl
theorem r57_81 (d : Nat) (ls st : List Value) (σ : am_St) (τ : Int64) (k : Nat) : am_run d 57 81 ls (.ref k :: st) σ τ = am_gf k 9 2 σ τ (fun v => am_run d 57 84 ls (v :: st) σ τ) := rr_getf dX9_about_81 (by decide +kernel)
theorem r57_84 (d : Nat) (ls st : List Value) (σ : am_St) (τ : Int64) (k : Nat) : am_run d 57 84 ls (.ref k :: st) σ τ = am_gf k 1 5 σ τ (fun v => am_run d 57 87 ls (v :: st) σ τ) := rr_getf dX9_about_84 (by decide +kernel)
theorem r57_87 (d : Nat) (st : List Value) (σ : am_St) (τ : Int64) (x : Int32) (v0 v2 : Value) : am_run d 57 87 [v0, .int x, v2] st σ τ = am_run d 57 88 [v0, .int x, v2] (.int x :: st) σ τ := rr_iload_n dX9_about_87 rfl
theorem r57_88 (d : Nat) (ls st : List Value) (σ : am_St) (τ : Int64) (i : Int32) (k : Nat) : am_run d 57 88 ls (.int i :: .ref k :: st) σ τ = am_ai true k i (fun j => am_run d 57 89 ls (.int (σ k j) :: st) σ τ) := rr_bald dX9_about_88
theorem r57_89 (d : Nat) (ls st : List Value) (σ : am_St) (τ : Int64) (x : Int32) : am_run d 57 89 ls (.int x :: st) σ τ = if x = 0 then am_run d 57 97 ls st σ τ else am_run d 57 92 ls st σ τ := (rr_if 97 dX9_about_89 (by decide)).trans am_sel
theorem r57_92 (d : Nat) (ls st : List Value) (σ : am_St) (τ : Int64) : am_run d 57 92 ls st σ τ = am_run d 57 94 ls (.int (-2) :: st) σ τ := rr_bipush (-2) dX9_about_92 (by decide)
theorem r57_94 (d : Nat) (ls st : List Value) (σ : am_St) (τ : Int64) : am_run d 57 94 ls st σ τ = am_run d 57 106 ls st σ τ := rr_goto 106 dX9_about_94 (by decide)
theorem r57_97 (d : Nat) (st : List Value) (σ : am_St) (τ : Int64) (x : Nat) (v1 v2 : Value) : am_run d 57 97 [.ref x, v1, v2] st σ τ = am_run d 57 98 [.ref x, v1, v2] (.ref x :: st) σ τ := rr_aload_n dX9_about_97 rfl
theorem r57_98 (d : Nat) (ls st : List Value) (σ : am_St) (τ : Int64) (k : Nat) : am_run d 57 98 ls (.ref k :: st) σ τ = am_gf k 9 2 σ τ (fun v => am_run d 57 101 ls (v :: st) σ τ) := rr_getf dX9_about_98 (by decide +kernel)
theorem r57_101 (d : Nat) (ls st : List Value) (σ : am_St) (τ : Int64) (k : Nat) : am_run d 57 101 ls (.ref k :: st) σ τ = am_gf k 1 3 σ τ (fun v => am_run d 57 104 ls (v :: st) σ τ) := rr_getf dX9_about_101 (by decide +kernel)
theorem r57_104 (d : Nat) (st : List Value) (σ : am_St) (τ : Int64) (x : Int32) (v0 v2 : Value) : am_run d 57 104 [v0, .int x, v2] st σ τ = am_run d 57 105 [v0, .int x, v2] (.int x :: st) σ τ := rr_iload_n dX9_about_104 rfl
theorem r57_105 (d : Nat) (ls st : List Value) (σ : am_St) (τ : Int64) (i : Int32) (k : Nat) : am_run d 57 105 ls (.int i :: .ref k :: st) σ τ = am_ai false k i (fun j => am_run d 57 106 ls (.int (σ k j) :: st) σ τ) := rr_iald dX9_about_105
theorem r57_106 (d : Nat) (ls : List Value) (σ : am_St) (τ : Int64) (x : Int32) : am_run d 57 106 ls [.int x] σ τ = some (some (.int x), σ, τ) := rr_iret dX9_about_106 rfl
theorem r57_107 (d : Nat) (st : List Value) (σ : am_St) (τ : Int64) (x : Nat) (v1 v2 : Value) : am_run d 57 107 [.ref x, v1, v2] st σ τ = am_run d 57 108 [.ref x, v1, v2] (.ref x :: st) σ τ := rr_aload_n dX9_about_107 rfl
theorem r57_108 (d : Nat) (ls st : List Value) (σ : am_St) (τ : Int64) (k : Nat) : am_run d 57 108 ls (.ref k :: st) σ τ = am_gf k 9 2 σ τ (fun v => am_run d 57 111 ls (v :: st) σ τ) := rr_getf dX9_about_108 (by decide +kernel)
theorem r57_111 (d : Nat) (ls st : List Value) (σ : am_St) (τ : Int64) (k : Nat) : am_run d 57 111 ls (.ref k :: st) σ τ = am_gf k 1 4 σ τ (fun v => am_run d 57 114 ls (v :: st) σ τ) := rr_getf dX9_about_111 (by decide +kernel)
theorem r57_114 (d : Nat) (st : List Value) (σ : am_St) (τ : Int64) (x : Int32) (v0 v2 : Value) : am_run d 57 114 [v0, .int x, v2] st σ τ = am_run d 57 115 [v0, .int x, v2] (.int x :: st) σ τ := rr_iload_n dX9_about_114 rfl
theorem r57_115 (d : Nat) (ls st : List Value) (σ : am_St) (τ : Int64) (i : Int32) (k : Nat) : am_run d 57 115 ls (.int i :: .ref k :: st) σ τ = am_ai false k i (fun j => am_run d 57 116 ls (.int (σ k j) :: st) σ τ) := rr_iald dX9_about_115
theorem r57_116 (d : Nat) (ls : List Value) (σ : am_St) (τ : Int64) (x : Int32) : am_run d 57 116 ls [.int x] σ τ = some (some (.int x), σ, τ) := rr_iret dX9_about_116 rfl
theorem r57_117 (d : Nat) (st : List Value) (σ : am_St) (τ : Int64) (x : Nat) (v1 v2 : Value) : am_run d 57 117 [.ref x, v1, v2] st σ τ = am_run d 57 118 [.ref x, v1, v2] (.ref x :: st) σ τ := rr_aload_n dX9_about_117 rfl
theorem r57_118 (d : Nat) (ls st : List Value) (σ : am_St) (τ : Int64) (k : Nat) : am_run d 57 118 ls (.ref k :: st) σ τ = am_gf k 9 3 σ τ (fun v => am_run d 57 121 ls (v :: st) σ τ) := rr_getf dX9_about_118 (by decide +kernel)
theorem r57_121 (d : Nat) (ls st : List Value) (σ : am_St) (τ : Int64) (k : Nat) : am_run d 57 121 ls (.ref k :: st) σ τ = am_gf k 7 0 σ τ (fun v => am_run d 57 124 ls (v :: st) σ τ) := rr_getf dX9_about_121 (by decide +kernel)
theorem r57_124 (d : Nat) (st : List Value) (σ : am_St) (τ : Int64) (x : Int32) (v0 v2 : Value) : am_run d 57 124 [v0, .int x, v2] st σ τ = am_run d 57 125 [v0, .int x, v2] (.int x :: st) σ τ := rr_iload_n dX9_about_124 rfl
theorem r57_125 (d : Nat) (ls st : List Value) (σ : am_St) (τ : Int64) (i : Int32) (k : Nat) : am_run d 57 125 ls (.int i :: .ref k :: st) σ τ = am_ai false k i (fun j => am_run d 57 126 ls (.int (σ k j) :: st) σ τ) := rr_iald dX9_about_125
theorem r57_126 (d : Nat) (ls : List Value) (σ : am_St) (τ : Int64) (x : Int32) : am_run d 57 126 ls [.int x] σ τ = some (some (.int x), σ, τ) := rr_iret dX9_about_126 rfl
theorem r57_127 (d : Nat) (st : List Value) (σ : am_St) (τ : Int64) (x : Nat) (v1 v2 : Value) : am_run d 57 127 [.ref x, v1, v2] st σ τ = am_run d 57 128 [.ref x, v1, v2] (.ref x :: st) σ τ := rr_aload_n dX9_about_127 rfl
theorem r57_128 (d : Nat) (ls st : List Value) (σ : am_St) (τ : Int64) (k : Nat) : am_run d 57 128 ls (.ref k :: st) σ τ = am_gf k 9 2 σ τ (fun v => am_run d 57 131 ls (v :: st) σ τ) := rr_getf dX9_about_128 (by decide +kernel)
theorem r57_131 (d : Nat) (ls st : List Value) (σ : am_St) (τ : Int64) (k : Nat) : am_run d 57 131 ls (.ref k :: st) σ τ = am_gf k 1 8 σ τ (fun v => am_run d 57 134 ls (v :: st) σ τ) := rr_getf dX9_about_131 (by decide +kernel)
theorem r57_134 (d : Nat) (st : List Value) (σ : am_St) (τ : Int64) (x : Int32) (v0 v2 : Value) : am_run d 57 134 [v0, .int x, v2] st σ τ = am_run d 57 135 [v0, .int x, v2] (.int x :: st) σ τ := rr_iload_n dX9_about_134 rfl
theorem r57_135 (d : Nat) (ls st : List Value) (σ : am_St) (τ : Int64) (i : Int32) (k : Nat) : am_run d 57 135 ls (.int i :: .ref k :: st) σ τ = am_ai false k i (fun j => am_run d 57 136 ls (.int (σ k j) :: st) σ τ) := rr_iald dX9_about_135
theorem r57_136 (d : Nat) (ls : List Value) (σ : am_St) (τ : Int64) (x : Int32) : am_run d 57 136 ls [.int x] σ τ = some (some (.int x), σ, τ) := rr_iret dX9_about_136 rfl
theorem r57_137 (d : Nat) (st : List Value) (σ : am_St) (τ : Int64) (x : Nat) (v1 v2 : Value) : am_run d 57 137 [.ref x, v1, v2] st σ τ = am_run d 57 138 [.ref x, v1, v2] (.ref x :: st) σ τ := rr_aload_n dX9_about_137 rfl
theorem r57_138 (d : Nat) (ls st : List Value) (σ : am_St) (τ : Int64) (k : Nat) : am_run d 57 138 ls (.ref k :: st) σ τ = am_gf k 9 2 σ τ (fun v => am_run d 57 141 ls (v :: st) σ τ) := rr_getf dX9_about_138 (by decide +kernel)
theorem r57_141 (d : Nat) (ls st : List Value) (σ : am_St) (τ : Int64) (k : Nat) : am_run d 57 141 ls (.ref k :: st) σ τ = am_gf k 1 9 σ τ (fun v => am_run d 57 144 ls (v :: st) σ τ) := rr_getf dX9_about_141 (by decide +kernel)
theorem r57_144 (d : Nat) (st : List Value) (σ : am_St) (τ : Int64) (x : Int32) (v0 v2 : Value) : am_run d 57 144 [v0, .int x, v2] st σ τ = am_run d 57 145 [v0, .int x, v2] (.int x :: st) σ τ := rr_iload_n dX9_about_144 rfl
theorem r57_145 (d : Nat) (ls st : List Value) (σ : am_St) (τ : Int64) (i : Int32) (k : Nat) : am_run d 57 145 ls (.int i :: .ref k :: st) σ τ = am_ai true k i (fun j => am_run d 57 146 ls (.int (σ k j) :: st) σ τ) := rr_bald dX9_about_145
theorem r57_146 (d : Nat) (ls st : List Value) (σ : am_St) (τ : Int64) (x : Int32) : am_run d 57 146 ls (.int x :: st) σ τ = if x = 0 then am_run d 57 153 ls st σ τ else am_run d 57 149 ls st σ τ := (rr_if 153 dX9_about_146 (by decide)).trans am_sel
theorem r57_149 (d : Nat) (ls st : List Value) (σ : am_St) (τ : Int64) : am_run d 57 149 ls st σ τ = am_run d 57 150 ls (.int 1 :: st) σ τ := rr_iconst 1 dX9_about_149 (by decide)
theorem r57_150 (d : Nat) (ls st : List Value) (σ : am_St) (τ : Int64) : am_run d 57 150 ls st σ τ = am_run d 57 154 ls st σ τ := rr_goto 154 dX9_about_150 (by decide)
theorem r57_153 (d : Nat) (ls st : List Value) (σ : am_St) (τ : Int64) : am_run d 57 153 ls st σ τ = am_run d 57 154 ls (.int 0 :: st) σ τ := rr_iconst 0 dX9_about_153 (by decide)
theorem r57_154 (d : Nat) (ls : List Value) (σ : am_St) (τ : Int64) (x : Int32) : am_run d 57 154 ls [.int x] σ τ = some (some (.int x), σ, τ) := rr_iret dX9_about_154 rfl
theorem r57_155 (d : Nat) (st : List Value) (σ : am_St) (τ : Int64) (x : Nat) (v1 v2 : Value) : am_run d 57 155 [.ref x, v1, v2] st σ τ = am_run d 57 156 [.ref x, v1, v2] (.ref x :: st) σ τ := rr_aload_n dX9_about_155 rfl
theorem r57_156 (d : Nat) (ls st : List Value) (σ : am_St) (τ : Int64) (k : Nat) : am_run d 57 156 ls (.ref k :: st) σ τ = am_gf k 9 2 σ τ (fun v => am_run d 57 159 ls (v :: st) σ τ) := rr_getf dX9_about_156 (by decide +kernel)
theorem r57_159 (d : Nat) (ls st : List Value) (σ : am_St) (τ : Int64) (k : Nat) : am_run d 57 159 ls (.ref k :: st) σ τ = am_gf k 1 6 σ τ (fun v => am_run d 57 162 ls (v :: st) σ τ) := rr_getf dX9_about_159 (by decide +kernel)
theorem r57_162 (d : Nat) (st : List Value) (σ : am_St) (τ : Int64) (x : Int32) (v0 v2 : Value) : am_run d 57 162 [v0, .int x, v2] st σ τ = am_run d 57 163 [v0, .int x, v2] (.int x :: st) σ τ := rr_iload_n dX9_about_162 rfl
theorem r57_163 (d : Nat) (ls st : List Value) (σ : am_St) (τ : Int64) (i : Int32) (k : Nat) : am_run d 57 163 ls (.int i :: .ref k :: st) σ τ = am_ai false k i (fun j => am_run d 57 164 ls (.int (σ k j) :: st) σ τ) := rr_iald dX9_about_163
theorem r57_164 (d : Nat) (ls : List Value) (σ : am_St) (τ : Int64) (x : Int32) : am_run d 57 164 ls [.int x] σ τ = some (some (.int x), σ, τ) := rr_iret dX9_about_164 rfl
theorem r57_165 (d : Nat) (ls st : List Value) (σ : am_St) (τ : Int64) : am_run d 57 165 ls st σ τ = am_run d 57 167 ls (.int (-102) :: st) σ τ := rr_bipush (-102) dX9_about_165 (by decide)
theorem r57_167 (d : Nat) (ls : List Value) (σ : am_St) (τ : Int64) (x : Int32) : am_run d 57 167 ls [.int x] σ τ = some (some (.int x), σ, τ) := rr_iret dX9_about_167 rfl
theorem dX9_as_0 : decode (am_code 58) 0 = .ok (.aload_n 0, 1) := by decide +kernel
theorem dX9_as_1 : decode (am_code 58) 1 = .ok (.getfield 28, 3) := by decide +kernel
theorem dX9_as_4 : decode (am_code 58) 4 = .ok (.iload_n 1, 1) := by decide +kernel
theorem dX9_as_5 : decode (am_code 58) 5 = .ok (.invokevirtual 143, 3) := by decide +kernel
theorem dX9_as_8 : decode (am_code 58) 8 = .ok (.ifCond .ne 6, 3) := by decide +kernel
theorem dX9_as_11 : decode (am_code 58) 11 = .ok (.bipush (-101), 2) := by decide +kernel
theorem dX9_as_13 : decode (am_code 58) 13 = .ok (.ireturn, 1) := by decide +kernel
theorem dX9_as_14 : decode (am_code 58) 14 = .ok (.iload_n 2, 1) := by decide +kernel
theorem dX9_as_15 : decode (am_code 58) 15 = .ok (.invokestatic 120, 3) := by decide +kernel
theorem dX9_as_18 : decode (am_code 58) 18 = .ok (.ifCond .ne 6, 3) := by decide +kernel
theorem dX9_as_21 : decode (am_code 58) 21 = .ok (.bipush (-102), 2) := by decide +kernel
theorem dX9_as_23 : decode (am_code 58) 23 = .ok (.ireturn, 1) := by decide +kernel
theorem dX9_as_24 : decode (am_code 58) 24 = .ok (.aload_n 0, 1) := by decide +kernel
theorem dX9_as_25 : decode (am_code 58) 25 = .ok (.getfield 28, 3) := by decide +kernel
theorem dX9_as_28 : decode (am_code 58) 28 = .ok (.getfield 146, 3) := by decide +kernel
theorem dX9_as_31 : decode (am_code 58) 31 = .ok (.iload_n 1, 1) := by decide +kernel
theorem dX9_as_32 : decode (am_code 58) 32 = .ok (.iaload, 1) := by decide +kernel
theorem dX9_as_33 : decode (am_code 58) 33 = .ok (.istore_n 3, 1) := by decide +kernel
theorem dX9_as_34 : decode (am_code 58) 34 = .ok (.iload_n 2, 1) := by decide +kernel
theorem dX9_as_35 : decode (am_code 58) 35 = .ok (.ifCond .eq 18, 3) := by decide +kernel
theorem dX9_as_38 : decode (am_code 58) 38 = .ok (.iload_n 2, 1) := by decide +kernel
theorem dX9_as_39 : decode (am_code 58) 39 = .ok (.iload_n 3, 1) := by decide +kernel
theorem dX9_as_40 : decode (am_code 58) 40 = .ok (.if_icmp .eq 13, 3) := by decide +kernel
theorem dX9_as_43 : decode (am_code 58) 43 = .ok (.iload_n 2, 1) := by decide +kernel
theorem dX9_as_44 : decode (am_code 58) 44 = .ok (.iconst 2, 1) := by decide +kernel
theorem dX9_as_45 : decode (am_code 58) 45 = .ok (.if_icmp .ne 12, 3) := by decide +kernel
theorem dX9_as_48 : decode (am_code 58) 48 = .ok (.iload_n 3, 1) := by decide +kernel
theorem dX9_as_49 : decode (am_code 58) 49 = .ok (.iconst 4, 1) := by decide +kernel
theorem dX9_as_50 : decode (am_code 58) 50 = .ok (.if_icmp .ne 7, 3) := by decide +kernel
theorem dX9_as_53 : decode (am_code 58) 53 = .ok (.iconst 1, 1) := by decide +kernel
theorem dX9_as_54 : decode (am_code 58) 54 = .ok (.goto 4, 3) := by decide +kernel
theorem dX9_as_57 : decode (am_code 58) 57 = .ok (.iconst 0, 1) := by decide +kernel
theorem dX9_as_58 : decode (am_code 58) 58 = .ok (.istore 4, 2) := by decide +kernel
theorem dX9_as_60 : decode (am_code 58) 60 = .ok (.iload 4, 2) := by decide +kernel
theorem dX9_as_62 : decode (am_code 58) 62 = .ok (.ifCond .eq 7, 3) := by decide +kernel
theorem dX9_as_65 : decode (am_code 58) 65 = .ok (.iload_n 1, 1) := by decide +kernel
theorem dX9_as_66 : decode (am_code 58) 66 = .ok (.goto 4, 3) := by decide +kernel
theorem dX9_as_69 : decode (am_code 58) 69 = .ok (.iconst (-1), 1) := by decide +kernel
theorem dX9_as_70 : decode (am_code 58) 70 = .ok (.ireturn, 1) := by decide +kernel
theorem r58_0 (d : Nat) (st : List Value) (σ : am_St) (τ : Int64) (x : Nat) (v1 v2 v3 v4 : Value) : am_run d 58 0 [.ref x, v1, v2, v3, v4] st σ τ = am_run d 58 1 [.ref x, v1, v2, v3, v4] (.ref x :: st) σ τ := rr_aload_n dX9_as_0 rfl
theorem r58_1 (d : Nat) (ls st : List Value) (σ : am_St) (τ : Int64) (k : Nat) : am_run d 58 1 ls (.ref k :: st) σ τ = am_gf k 9 2 σ τ (fun v => am_run d 58 4 ls (v :: st) σ τ) := rr_getf dX9_as_1 (by decide +kernel)
theorem r58_4 (d : Nat) (st : List Value) (σ : am_St) (τ : Int64) (x : Int32) (v0 v2 v3 v4 : Value) : am_run d 58 4 [v0, .int x, v2, v3, v4] st σ τ = am_run d 58 5 [v0, .int x, v2, v3, v4] (.int x :: st) σ τ := rr_iload_n dX9_as_4 rfl
theorem r58_5 (d : Nat) (ls st : List Value) (σ : am_St) (τ : Int64) (k : Nat) (a0 : Int32) (hk : am_kc k = 1) (hc : am_cats st ≤ 8) : am_run (d + 1) 58 5 ls (.int a0 :: .ref k :: st) σ τ = (am_call d 6 [.ref k, .int a0] σ τ).bind (fun r => am_run (d + 1) 58 8 ls (r.1.toList ++ st) r.2.1 r.2.2) := rr_invv [.int a0] dX9_as_5 (by decide +kernel) (by decide) rfl (Nat.le_of_ble_eq_true rfl) hk hc
theorem r58_8 (d : Nat) (ls st : List Value) (σ : am_St) (τ : Int64) (x : Int32) : am_run d 58 8 ls (.int x :: st) σ τ = if x = 0 then am_run d 58 11 ls st σ τ else am_run d 58 14 ls st σ τ := (rr_if 14 dX9_as_8 (by decide)).trans am_seln
theorem r58_11 (d : Nat) (ls st : List Value) (σ : am_St) (τ : Int64) : am_run d 58 11 ls st σ τ = am_run d 58 13 ls (.int (-101) :: st) σ τ := rr_bipush (-101) dX9_as_11 (by decide)
theorem r58_13 (d : Nat) (ls : List Value) (σ : am_St) (τ : Int64) (x : Int32) : am_run d 58 13 ls [.int x] σ τ = some (some (.int x), σ, τ) := rr_iret dX9_as_13 rfl
theorem r58_14 (d : Nat) (st : List Value) (σ : am_St) (τ : Int64) (x : Int32) (v0 v1 v3 v4 : Value) : am_run d 58 14 [v0, v1, .int x, v3, v4] st σ τ = am_run d 58 15 [v0, v1, .int x, v3, v4] (.int x :: st) σ τ := rr_iload_n dX9_as_14 rfl
theorem r58_15 (d : Nat) (ls st : List Value) (σ : am_St) (τ : Int64) (a0 : Int32) (hc : am_cats st ≤ 8) : am_run (d + 1) 58 15 ls (.int a0 :: st) σ τ = (am_call d 80 [.int a0] σ τ).bind (fun r => am_run (d + 1) 58 18 ls (r.1.toList ++ st) r.2.1 r.2.2) := rr_invs [.int a0] dX9_as_15 (by decide +kernel) (by decide +kernel) (by decide) rfl (Nat.le_of_ble_eq_true rfl) hc
theorem r58_18 (d : Nat) (ls st : List Value) (σ : am_St) (τ : Int64) (x : Int32) : am_run d 58 18 ls (.int x :: st) σ τ = if x = 0 then am_run d 58 21 ls st σ τ else am_run d 58 24 ls st σ τ := (rr_if 24 dX9_as_18 (by decide)).trans am_seln
theorem r58_21 (d : Nat) (ls st : List Value) (σ : am_St) (τ : Int64) : am_run d 58 21 ls st σ τ = am_run d 58 23 ls (.int (-102) :: st) σ τ := rr_bipush (-102) dX9_as_21 (by decide)
theorem r58_23 (d : Nat) (ls : List Value) (σ : am_St) (τ : Int64) (x : Int32) : am_run d 58 23 ls [.int x] σ τ = some (some (.int x), σ, τ) := rr_iret dX9_as_23 rfl
theorem r58_24 (d : Nat) (st : List Value) (σ : am_St) (τ : Int64) (x : Nat) (v1 v2 v3 v4 : Value) : am_run d 58 24 [.ref x, v1, v2, v3, v4] st σ τ = am_run d 58 25 [.ref x, v1, v2, v3, v4] (.ref x :: st) σ τ := rr_aload_n dX9_as_24 rfl
theorem r58_25 (d : Nat) (ls st : List Value) (σ : am_St) (τ : Int64) (k : Nat) : am_run d 58 25 ls (.ref k :: st) σ τ = am_gf k 9 2 σ τ (fun v => am_run d 58 28 ls (v :: st) σ τ) := rr_getf dX9_as_25 (by decide +kernel)
theorem r58_28 (d : Nat) (ls st : List Value) (σ : am_St) (τ : Int64) (k : Nat) : am_run d 58 28 ls (.ref k :: st) σ τ = am_gf k 1 1 σ τ (fun v => am_run d 58 31 ls (v :: st) σ τ) := rr_getf dX9_as_28 (by decide +kernel)
theorem r58_31 (d : Nat) (st : List Value) (σ : am_St) (τ : Int64) (x : Int32) (v0 v2 v3 v4 : Value) : am_run d 58 31 [v0, .int x, v2, v3, v4] st σ τ = am_run d 58 32 [v0, .int x, v2, v3, v4] (.int x :: st) σ τ := rr_iload_n dX9_as_31 rfl
theorem r58_32 (d : Nat) (ls st : List Value) (σ : am_St) (τ : Int64) (i : Int32) (k : Nat) : am_run d 58 32 ls (.int i :: .ref k :: st) σ τ = am_ai false k i (fun j => am_run d 58 33 ls (.int (σ k j) :: st) σ τ) := rr_iald dX9_as_32
theorem r58_33 (d : Nat) (st : List Value) (σ : am_St) (τ : Int64) (x : Int32) (v0 v1 v2 v3 v4 : Value) : am_run d 58 33 [v0, v1, v2, v3, v4] (.int x :: st) σ τ = am_run d 58 34 [v0, v1, am_nl v2, .int x, v4] st σ τ := rr_istore_n _ dX9_as_33 (by decide) (by first | rfl | (by_cases h : v2.category = 2 <;> simp [am_set1, am_nl, h]))
theorem r58_34 (d : Nat) (st : List Value) (σ : am_St) (τ : Int64) (x : Int32) (v0 v1 v3 v4 : Value) : am_run d 58 34 [v0, v1, .int x, v3, v4] st σ τ = am_run d 58 35 [v0, v1, .int x, v3, v4] (.int x :: st) σ τ := rr_iload_n dX9_as_34 rfl
theorem r58_35 (d : Nat) (ls st : List Value) (σ : am_St) (τ : Int64) (x : Int32) : am_run d 58 35 ls (.int x :: st) σ τ = if x = 0 then am_run d 58 53 ls st σ τ else am_run d 58 38 ls st σ τ := (rr_if 53 dX9_as_35 (by decide)).trans am_sel
theorem r58_38 (d : Nat) (st : List Value) (σ : am_St) (τ : Int64) (x : Int32) (v0 v1 v3 v4 : Value) : am_run d 58 38 [v0, v1, .int x, v3, v4] st σ τ = am_run d 58 39 [v0, v1, .int x, v3, v4] (.int x :: st) σ τ := rr_iload_n dX9_as_38 rfl
theorem r58_39 (d : Nat) (st : List Value) (σ : am_St) (τ : Int64) (x : Int32) (v0 v1 v2 v4 : Value) : am_run d 58 39 [v0, v1, v2, .int x, v4] st σ τ = am_run d 58 40 [v0, v1, v2, .int x, v4] (.int x :: st) σ τ := rr_iload_n dX9_as_39 rfl
theorem r58_40 (d : Nat) (ls st : List Value) (σ : am_St) (τ : Int64) (x y : Int32) : am_run d 58 40 ls (.int y :: .int x :: st) σ τ = if x = y then am_run d 58 53 ls st σ τ else am_run d 58 43 ls st σ τ := (rr_icmp 53 dX9_as_40 (by decide)).trans am_sel
theorem r58_43 (d : Nat) (st : List Value) (σ : am_St) (τ : Int64) (x : Int32) (v0 v1 v3 v4 : Value) : am_run d 58 43 [v0, v1, .int x, v3, v4] st σ τ = am_run d 58 44 [v0, v1, .int x, v3, v4] (.int x :: st) σ τ := rr_iload_n dX9_as_43 rfl
theorem r58_44 (d : Nat) (ls st : List Value) (σ : am_St) (τ : Int64) : am_run d 58 44 ls st σ τ = am_run d 58 45 ls (.int 2 :: st) σ τ := rr_iconst 2 dX9_as_44 (by decide)
theorem r58_45 (d : Nat) (ls st : List Value) (σ : am_St) (τ : Int64) (x y : Int32) : am_run d 58 45 ls (.int y :: .int x :: st) σ τ = if x = y then am_run d 58 48 ls st σ τ else am_run d 58 57 ls st σ τ := (rr_icmp 57 dX9_as_45 (by decide)).trans am_seln
theorem r58_48 (d : Nat) (st : List Value) (σ : am_St) (τ : Int64) (x : Int32) (v0 v1 v2 v4 : Value) : am_run d 58 48 [v0, v1, v2, .int x, v4] st σ τ = am_run d 58 49 [v0, v1, v2, .int x, v4] (.int x :: st) σ τ := rr_iload_n dX9_as_48 rfl
theorem r58_49 (d : Nat) (ls st : List Value) (σ : am_St) (τ : Int64) : am_run d 58 49 ls st σ τ = am_run d 58 50 ls (.int 4 :: st) σ τ := rr_iconst 4 dX9_as_49 (by decide)
theorem r58_50 (d : Nat) (ls st : List Value) (σ : am_St) (τ : Int64) (x y : Int32) : am_run d 58 50 ls (.int y :: .int x :: st) σ τ = if x = y then am_run d 58 53 ls st σ τ else am_run d 58 57 ls st σ τ := (rr_icmp 57 dX9_as_50 (by decide)).trans am_seln
theorem r58_53 (d : Nat) (ls st : List Value) (σ : am_St) (τ : Int64) : am_run d 58 53 ls st σ τ = am_run d 58 54 ls (.int 1 :: st) σ τ := rr_iconst 1 dX9_as_53 (by decide)
theorem r58_54 (d : Nat) (ls st : List Value) (σ : am_St) (τ : Int64) : am_run d 58 54 ls st σ τ = am_run d 58 58 ls st σ τ := rr_goto 58 dX9_as_54 (by decide)
theorem r58_57 (d : Nat) (ls st : List Value) (σ : am_St) (τ : Int64) : am_run d 58 57 ls st σ τ = am_run d 58 58 ls (.int 0 :: st) σ τ := rr_iconst 0 dX9_as_57 (by decide)
theorem r58_58 (d : Nat) (st : List Value) (σ : am_St) (τ : Int64) (x : Int32) (v0 v1 v2 v3 v4 : Value) : am_run d 58 58 [v0, v1, v2, v3, v4] (.int x :: st) σ τ = am_run d 58 60 [v0, v1, v2, am_nl v3, .int x] st σ τ := rr_istore _ dX9_as_58 (by decide) (by first | rfl | (by_cases h : v3.category = 2 <;> simp [am_set1, am_nl, h]))
theorem r58_60 (d : Nat) (st : List Value) (σ : am_St) (τ : Int64) (x : Int32) (v0 v1 v2 v3 : Value) : am_run d 58 60 [v0, v1, v2, v3, .int x] st σ τ = am_run d 58 62 [v0, v1, v2, v3, .int x] (.int x :: st) σ τ := rr_iload dX9_as_60 rfl
theorem r58_62 (d : Nat) (ls st : List Value) (σ : am_St) (τ : Int64) (x : Int32) : am_run d 58 62 ls (.int x :: st) σ τ = if x = 0 then am_run d 58 69 ls st σ τ else am_run d 58 65 ls st σ τ := (rr_if 69 dX9_as_62 (by decide)).trans am_sel
theorem r58_65 (d : Nat) (st : List Value) (σ : am_St) (τ : Int64) (x : Int32) (v0 v2 v3 v4 : Value) : am_run d 58 65 [v0, .int x, v2, v3, v4] st σ τ = am_run d 58 66 [v0, .int x, v2, v3, v4] (.int x :: st) σ τ := rr_iload_n dX9_as_65 rfl
theorem r58_66 (d : Nat) (ls st : List Value) (σ : am_St) (τ : Int64) : am_run d 58 66 ls st σ τ = am_run d 58 70 ls st σ τ := rr_goto 70 dX9_as_66 (by decide)
theorem r58_69 (d : Nat) (ls st : List Value) (σ : am_St) (τ : Int64) : am_run d 58 69 ls st σ τ = am_run d 58 70 ls (.int (-1) :: st) σ τ := rr_iconst (-1) dX9_as_69 (by decide)
theorem r58_70 (d : Nat) (ls : List Value) (σ : am_St) (τ : Int64) (x : Int32) : am_run d 58 70 ls [.int x] σ τ = some (some (.int x), σ, τ) := rr_iret dX9_as_70 rfl
theorem dX9_call_0 : decode (am_code 59) 0 = .ok (.aload_n 0, 1) := by decide +kernel
theorem dX9_call_1 : decode (am_code 59) 1 = .ok (.getfield 28, 3) := by decide +kernel
theorem dX9_call_4 : decode (am_code 59) 4 = .ok (.iload_n 1, 1) := by decide +kernel
theorem dX9_call_5 : decode (am_code 59) 5 = .ok (.invokevirtual 143, 3) := by decide +kernel
theorem dX9_call_8 : decode (am_code 59) 8 = .ok (.ifCond .ne 6, 3) := by decide +kernel
theorem dX9_call_11 : decode (am_code 59) 11 = .ok (.bipush (-101), 2) := by decide +kernel
theorem dX9_call_13 : decode (am_code 59) 13 = .ok (.ireturn, 1) := by decide +kernel
theorem dX9_call_14 : decode (am_code 59) 14 = .ok (.aload_n 0, 1) := by decide +kernel
theorem dX9_call_15 : decode (am_code 59) 15 = .ok (.getfield 28, 3) := by decide +kernel
theorem dX9_call_18 : decode (am_code 59) 18 = .ok (.iload_n 1, 1) := by decide +kernel
theorem dX9_call_19 : decode (am_code 59) 19 = .ok (.invokevirtual 175, 3) := by decide +kernel
theorem dX9_call_22 : decode (am_code 59) 22 = .ok (.ifCond .ne 6, 3) := by decide +kernel
theorem dX9_call_25 : decode (am_code 59) 25 = .ok (.bipush (-103), 2) := by decide +kernel
theorem dX9_call_27 : decode (am_code 59) 27 = .ok (.ireturn, 1) := by decide +kernel
theorem dX9_call_28 : decode (am_code 59) 28 = .ok (.iload_n 2, 1) := by decide +kernel
theorem dX9_call_29 : decode (am_code 59) 29 = .ok (.invokestatic 131, 3) := by decide +kernel
theorem dX9_call_32 : decode (am_code 59) 32 = .ok (.ifCond .ne 6, 3) := by decide +kernel
theorem dX9_call_35 : decode (am_code 59) 35 = .ok (.bipush (-102), 2) := by decide +kernel
theorem dX9_call_37 : decode (am_code 59) 37 = .ok (.ireturn, 1) := by decide +kernel
theorem dX9_call_38 : decode (am_code 59) 38 = .ok (.aload_n 0, 1) := by decide +kernel
theorem dX9_call_39 : decode (am_code 59) 39 = .ok (.getfield 28, 3) := by decide +kernel
theorem dX9_call_42 : decode (am_code 59) 42 = .ok (.getfield 178, 3) := by decide +kernel
theorem dX9_call_45 : decode (am_code 59) 45 = .ok (.iload_n 1, 1) := by decide +kernel
theorem dX9_call_46 : decode (am_code 59) 46 = .ok (.iaload, 1) := by decide +kernel
theorem dX9_call_47 : decode (am_code 59) 47 = .ok (.istore_n 3, 1) := by decide +kernel
theorem dX9_call_48 : decode (am_code 59) 48 = .ok (.aload_n 0, 1) := by decide +kernel
theorem dX9_call_49 : decode (am_code 59) 49 = .ok (.getfield 28, 3) := by decide +kernel
theorem dX9_call_52 : decode (am_code 59) 52 = .ok (.getfield 178, 3) := by decide +kernel
theorem dX9_call_55 : decode (am_code 59) 55 = .ok (.iload_n 1, 1) := by decide +kernel
theorem dX9_call_56 : decode (am_code 59) 56 = .ok (.iload_n 2, 1) := by decide +kernel
theorem dX9_call_57 : decode (am_code 59) 57 = .ok (.iastore, 1) := by decide +kernel
theorem dX9_call_58 : decode (am_code 59) 58 = .ok (.aload_n 0, 1) := by decide +kernel
theorem dX9_call_59 : decode (am_code 59) 59 = .ok (.invokevirtual 105, 3) := by decide +kernel
theorem dX9_call_62 : decode (am_code 59) 62 = .ok (.iload_n 3, 1) := by decide +kernel
theorem dX9_call_63 : decode (am_code 59) 63 = .ok (.ireturn, 1) := by decide +kernel
theorem r59_0 (d : Nat) (st : List Value) (σ : am_St) (τ : Int64) (x : Nat) (v1 v2 v3 : Value) : am_run d 59 0 [.ref x, v1, v2, v3] st σ τ = am_run d 59 1 [.ref x, v1, v2, v3] (.ref x :: st) σ τ := rr_aload_n dX9_call_0 rfl
theorem r59_1 (d : Nat) (ls st : List Value) (σ : am_St) (τ : Int64) (k : Nat) : am_run d 59 1 ls (.ref k :: st) σ τ = am_gf k 9 2 σ τ (fun v => am_run d 59 4 ls (v :: st) σ τ) := rr_getf dX9_call_1 (by decide +kernel)
theorem r59_4 (d : Nat) (st : List Value) (σ : am_St) (τ : Int64) (x : Int32) (v0 v2 v3 : Value) : am_run d 59 4 [v0, .int x, v2, v3] st σ τ = am_run d 59 5 [v0, .int x, v2, v3] (.int x :: st) σ τ := rr_iload_n dX9_call_4 rfl
theorem r59_5 (d : Nat) (ls st : List Value) (σ : am_St) (τ : Int64) (k : Nat) (a0 : Int32) (hk : am_kc k = 1) (hc : am_cats st ≤ 8) : am_run (d + 1) 59 5 ls (.int a0 :: .ref k :: st) σ τ = (am_call d 6 [.ref k, .int a0] σ τ).bind (fun r => am_run (d + 1) 59 8 ls (r.1.toList ++ st) r.2.1 r.2.2) := rr_invv [.int a0] dX9_call_5 (by decide +kernel) (by decide) rfl (Nat.le_of_ble_eq_true rfl) hk hc
theorem r59_8 (d : Nat) (ls st : List Value) (σ : am_St) (τ : Int64) (x : Int32) : am_run d 59 8 ls (.int x :: st) σ τ = if x = 0 then am_run d 59 11 ls st σ τ else am_run d 59 14 ls st σ τ := (rr_if 14 dX9_call_8 (by decide)).trans am_seln
theorem r59_11 (d : Nat) (ls st : List Value) (σ : am_St) (τ : Int64) : am_run d 59 11 ls st σ τ = am_run d 59 13 ls (.int (-101) :: st) σ τ := rr_bipush (-101) dX9_call_11 (by decide)
theorem r59_13 (d : Nat) (ls : List Value) (σ : am_St) (τ : Int64) (x : Int32) : am_run d 59 13 ls [.int x] σ τ = some (some (.int x), σ, τ) := rr_iret dX9_call_13 rfl
theorem r59_14 (d : Nat) (st : List Value) (σ : am_St) (τ : Int64) (x : Nat) (v1 v2 v3 : Value) : am_run d 59 14 [.ref x, v1, v2, v3] st σ τ = am_run d 59 15 [.ref x, v1, v2, v3] (.ref x :: st) σ τ := rr_aload_n dX9_call_14 rfl
theorem r59_15 (d : Nat) (ls st : List Value) (σ : am_St) (τ : Int64) (k : Nat) : am_run d 59 15 ls (.ref k :: st) σ τ = am_gf k 9 2 σ τ (fun v => am_run d 59 18 ls (v :: st) σ τ) := rr_getf dX9_call_15 (by decide +kernel)
theorem r59_18 (d : Nat) (st : List Value) (σ : am_St) (τ : Int64) (x : Int32) (v0 v2 v3 : Value) : am_run d 59 18 [v0, .int x, v2, v3] st σ τ = am_run d 59 19 [v0, .int x, v2, v3] (.int x :: st) σ τ := rr_iload_n dX9_call_18 rfl
theorem r59_19 (d : Nat) (ls st : List Value) (σ : am_St) (τ : Int64) (k : Nat) (a0 : Int32) (hk : am_kc k = 1) (hc : am_cats st ≤ 8) : am_run (d + 1) 59 19 ls (.int a0 :: .ref k :: st) σ τ = (am_call d 8 [.ref k, .int a0] σ τ).bind (fun r => am_run (d + 1) 59 22 ls (r.1.toList ++ st) r.2.1 r.2.2) := rr_invv [.int a0] dX9_call_19 (by decide +kernel) (by decide) rfl (Nat.le_of_ble_eq_true rfl) hk hc
theorem r59_22 (d : Nat) (ls st : List Value) (σ : am_St) (τ : Int64) (x : Int32) : am_run d 59 22 ls (.int x :: st) σ τ = if x = 0 then am_run d 59 25 ls st σ τ else am_run d 59 28 ls st σ τ := (rr_if 28 dX9_call_22 (by decide)).trans am_seln
theorem r59_25 (d : Nat) (ls st : List Value) (σ : am_St) (τ : Int64) : am_run d 59 25 ls st σ τ = am_run d 59 27 ls (.int (-103) :: st) σ τ := rr_bipush (-103) dX9_call_25 (by decide)
theorem r59_27 (d : Nat) (ls : List Value) (σ : am_St) (τ : Int64) (x : Int32) : am_run d 59 27 ls [.int x] σ τ = some (some (.int x), σ, τ) := rr_iret dX9_call_27 rfl
theorem r59_28 (d : Nat) (st : List Value) (σ : am_St) (τ : Int64) (x : Int32) (v0 v1 v3 : Value) : am_run d 59 28 [v0, v1, .int x, v3] st σ τ = am_run d 59 29 [v0, v1, .int x, v3] (.int x :: st) σ τ := rr_iload_n dX9_call_28 rfl
theorem r59_29 (d : Nat) (ls st : List Value) (σ : am_St) (τ : Int64) (a0 : Int32) (hc : am_cats st ≤ 8) : am_run (d + 1) 59 29 ls (.int a0 :: st) σ τ = (am_call d 81 [.int a0] σ τ).bind (fun r => am_run (d + 1) 59 32 ls (r.1.toList ++ st) r.2.1 r.2.2) := rr_invs [.int a0] dX9_call_29 (by decide +kernel) (by decide +kernel) (by decide) rfl (Nat.le_of_ble_eq_true rfl) hc
theorem r59_32 (d : Nat) (ls st : List Value) (σ : am_St) (τ : Int64) (x : Int32) : am_run d 59 32 ls (.int x :: st) σ τ = if x = 0 then am_run d 59 35 ls st σ τ else am_run d 59 38 ls st σ τ := (rr_if 38 dX9_call_32 (by decide)).trans am_seln
theorem r59_35 (d : Nat) (ls st : List Value) (σ : am_St) (τ : Int64) : am_run d 59 35 ls st σ τ = am_run d 59 37 ls (.int (-102) :: st) σ τ := rr_bipush (-102) dX9_call_35 (by decide)
theorem r59_37 (d : Nat) (ls : List Value) (σ : am_St) (τ : Int64) (x : Int32) : am_run d 59 37 ls [.int x] σ τ = some (some (.int x), σ, τ) := rr_iret dX9_call_37 rfl
theorem r59_38 (d : Nat) (st : List Value) (σ : am_St) (τ : Int64) (x : Nat) (v1 v2 v3 : Value) : am_run d 59 38 [.ref x, v1, v2, v3] st σ τ = am_run d 59 39 [.ref x, v1, v2, v3] (.ref x :: st) σ τ := rr_aload_n dX9_call_38 rfl
theorem r59_39 (d : Nat) (ls st : List Value) (σ : am_St) (τ : Int64) (k : Nat) : am_run d 59 39 ls (.ref k :: st) σ τ = am_gf k 9 2 σ τ (fun v => am_run d 59 42 ls (v :: st) σ τ) := rr_getf dX9_call_39 (by decide +kernel)
theorem r59_42 (d : Nat) (ls st : List Value) (σ : am_St) (τ : Int64) (k : Nat) : am_run d 59 42 ls (.ref k :: st) σ τ = am_gf k 1 7 σ τ (fun v => am_run d 59 45 ls (v :: st) σ τ) := rr_getf dX9_call_42 (by decide +kernel)
theorem r59_45 (d : Nat) (st : List Value) (σ : am_St) (τ : Int64) (x : Int32) (v0 v2 v3 : Value) : am_run d 59 45 [v0, .int x, v2, v3] st σ τ = am_run d 59 46 [v0, .int x, v2, v3] (.int x :: st) σ τ := rr_iload_n dX9_call_45 rfl
theorem r59_46 (d : Nat) (ls st : List Value) (σ : am_St) (τ : Int64) (i : Int32) (k : Nat) : am_run d 59 46 ls (.int i :: .ref k :: st) σ τ = am_ai false k i (fun j => am_run d 59 47 ls (.int (σ k j) :: st) σ τ) := rr_iald dX9_call_46
theorem r59_47 (d : Nat) (st : List Value) (σ : am_St) (τ : Int64) (x : Int32) (v0 v1 v2 v3 : Value) : am_run d 59 47 [v0, v1, v2, v3] (.int x :: st) σ τ = am_run d 59 48 [v0, v1, am_nl v2, .int x] st σ τ := rr_istore_n _ dX9_call_47 (by decide) (by first | rfl | (by_cases h : v2.category = 2 <;> simp [am_set1, am_nl, h]))
theorem r59_48 (d : Nat) (st : List Value) (σ : am_St) (τ : Int64) (x : Nat) (v1 v2 v3 : Value) : am_run d 59 48 [.ref x, v1, v2, v3] st σ τ = am_run d 59 49 [.ref x, v1, v2, v3] (.ref x :: st) σ τ := rr_aload_n dX9_call_48 rfl
theorem r59_49 (d : Nat) (ls st : List Value) (σ : am_St) (τ : Int64) (k : Nat) : am_run d 59 49 ls (.ref k :: st) σ τ = am_gf k 9 2 σ τ (fun v => am_run d 59 52 ls (v :: st) σ τ) := rr_getf dX9_call_49 (by decide +kernel)
theorem r59_52 (d : Nat) (ls st : List Value) (σ : am_St) (τ : Int64) (k : Nat) : am_run d 59 52 ls (.ref k :: st) σ τ = am_gf k 1 7 σ τ (fun v => am_run d 59 55 ls (v :: st) σ τ) := rr_getf dX9_call_52 (by decide +kernel)
theorem r59_55 (d : Nat) (st : List Value) (σ : am_St) (τ : Int64) (x : Int32) (v0 v2 v3 : Value) : am_run d 59 55 [v0, .int x, v2, v3] st σ τ = am_run d 59 56 [v0, .int x, v2, v3] (.int x :: st) σ τ := rr_iload_n dX9_call_55 rfl
theorem r59_56 (d : Nat) (st : List Value) (σ : am_St) (τ : Int64) (x : Int32) (v0 v1 v3 : Value) : am_run d 59 56 [v0, v1, .int x, v3] st σ τ = am_run d 59 57 [v0, v1, .int x, v3] (.int x :: st) σ τ := rr_iload_n dX9_call_56 rfl
theorem r59_57 (d : Nat) (ls st : List Value) (σ : am_St) (τ : Int64) (x i : Int32) (k : Nat) : am_run d 59 57 ls (.int x :: .int i :: .ref k :: st) σ τ = am_ai false k i (fun j => am_run d 59 58 ls st (am_up σ k j x) τ) := rr_iast dX9_call_57
theorem r59_58 (d : Nat) (st : List Value) (σ : am_St) (τ : Int64) (x : Nat) (v1 v2 v3 : Value) : am_run d 59 58 [.ref x, v1, v2, v3] st σ τ = am_run d 59 59 [.ref x, v1, v2, v3] (.ref x :: st) σ τ := rr_aload_n dX9_call_58 rfl
theorem r59_59 (d : Nat) (ls st : List Value) (σ : am_St) (τ : Int64) (k : Nat)  (hk : am_kc k = 9) (hc : am_cats st ≤ 8) : am_run (d + 1) 59 59 ls (.ref k :: st) σ τ = (am_call d 77 [.ref k] σ τ).bind (fun r => am_run (d + 1) 59 62 ls (r.1.toList ++ st) r.2.1 r.2.2) := rr_invv [] dX9_call_59 (by decide +kernel) (by decide) rfl (Nat.le_of_ble_eq_true rfl) hk hc
theorem r59_62 (d : Nat) (st : List Value) (σ : am_St) (τ : Int64) (x : Int32) (v0 v1 v2 : Value) : am_run d 59 62 [v0, v1, v2, .int x] st σ τ = am_run d 59 63 [v0, v1, v2, .int x] (.int x :: st) σ τ := rr_iload_n dX9_call_62 rfl
theorem r59_63 (d : Nat) (ls : List Value) (σ : am_St) (τ : Int64) (x : Int32) : am_run d 59 63 ls [.int x] σ τ = some (some (.int x), σ, τ) := rr_iret dX9_call_63 rfl
theorem dX9_write_0 : decode (am_code 60) 0 = .ok (.aload_n 0, 1) := by decide +kernel
theorem dX9_write_1 : decode (am_code 60) 1 = .ok (.getfield 28, 3) := by decide +kernel
theorem dX9_write_4 : decode (am_code 60) 4 = .ok (.iload_n 1, 1) := by decide +kernel
theorem dX9_write_5 : decode (am_code 60) 5 = .ok (.invokevirtual 143, 3) := by decide +kernel
theorem dX9_write_8 : decode (am_code 60) 8 = .ok (.ifCond .ne 6, 3) := by decide +kernel
theorem dX9_write_11 : decode (am_code 60) 11 = .ok (.bipush (-101), 2) := by decide +kernel
theorem dX9_write_13 : decode (am_code 60) 13 = .ok (.ireturn, 1) := by decide +kernel
theorem dX9_write_14 : decode (am_code 60) 14 = .ok (.iload_n 2, 1) := by decide +kernel
theorem dX9_write_15 : decode (am_code 60) 15 = .ok (.iconst (-1), 1) := by decide +kernel
theorem dX9_write_16 : decode (am_code 60) 16 = .ok (.if_icmp .eq 13, 3) := by decide +kernel
theorem dX9_write_19 : decode (am_code 60) 19 = .ok (.iload_n 2, 1) := by decide +kernel
theorem dX9_write_20 : decode (am_code 60) 20 = .ok (.invokestatic 131, 3) := by decide +kernel
theorem dX9_write_23 : decode (am_code 60) 23 = .ok (.ifCond .ne 6, 3) := by decide +kernel
theorem dX9_write_26 : decode (am_code 60) 26 = .ok (.bipush (-102), 2) := by decide +kernel
theorem dX9_write_28 : decode (am_code 60) 28 = .ok (.ireturn, 1) := by decide +kernel
theorem dX9_write_29 : decode (am_code 60) 29 = .ok (.aload_n 0, 1) := by decide +kernel
theorem dX9_write_30 : decode (am_code 60) 30 = .ok (.getfield 28, 3) := by decide +kernel
theorem dX9_write_33 : decode (am_code 60) 33 = .ok (.getfield 166, 3) := by decide +kernel
theorem dX9_write_36 : decode (am_code 60) 36 = .ok (.iload_n 1, 1) := by decide +kernel
theorem dX9_write_37 : decode (am_code 60) 37 = .ok (.iaload, 1) := by decide +kernel
theorem dX9_write_38 : decode (am_code 60) 38 = .ok (.istore_n 3, 1) := by decide +kernel
theorem dX9_write_39 : decode (am_code 60) 39 = .ok (.aload_n 0, 1) := by decide +kernel
theorem dX9_write_40 : decode (am_code 60) 40 = .ok (.getfield 28, 3) := by decide +kernel
theorem dX9_write_43 : decode (am_code 60) 43 = .ok (.getfield 166, 3) := by decide +kernel
theorem dX9_write_46 : decode (am_code 60) 46 = .ok (.iload_n 1, 1) := by decide +kernel
theorem dX9_write_47 : decode (am_code 60) 47 = .ok (.iload_n 2, 1) := by decide +kernel
theorem dX9_write_48 : decode (am_code 60) 48 = .ok (.iastore, 1) := by decide +kernel
theorem dX9_write_49 : decode (am_code 60) 49 = .ok (.iload_n 3, 1) := by decide +kernel
theorem dX9_write_50 : decode (am_code 60) 50 = .ok (.ireturn, 1) := by decide +kernel
theorem r60_0 (d : Nat) (st : List Value) (σ : am_St) (τ : Int64) (x : Nat) (v1 v2 v3 : Value) : am_run d 60 0 [.ref x, v1, v2, v3] st σ τ = am_run d 60 1 [.ref x, v1, v2, v3] (.ref x :: st) σ τ := rr_aload_n dX9_write_0 rfl
theorem r60_1 (d : Nat) (ls st : List Value) (σ : am_St) (τ : Int64) (k : Nat) : am_run d 60 1 ls (.ref k :: st) σ τ = am_gf k 9 2 σ τ (fun v => am_run d 60 4 ls (v :: st) σ τ) := rr_getf dX9_write_1 (by decide +kernel)
theorem r60_4 (d : Nat) (st : List Value) (σ : am_St) (τ : Int64) (x : Int32) (v0 v2 v3 : Value) : am_run d 60 4 [v0, .int x, v2, v3] st σ τ = am_run d 60 5 [v0, .int x, v2, v3] (.int x :: st) σ τ := rr_iload_n dX9_write_4 rfl
theorem r60_5 (d : Nat) (ls st : List Value) (σ : am_St) (τ : Int64) (k : Nat) (a0 : Int32) (hk : am_kc k = 1) (hc : am_cats st ≤ 8) : am_run (d + 1) 60 5 ls (.int a0 :: .ref k :: st) σ τ = (am_call d 6 [.ref k, .int a0] σ τ).bind (fun r => am_run (d + 1) 60 8 ls (r.1.toList ++ st) r.2.1 r.2.2) := rr_invv [.int a0] dX9_write_5 (by decide +kernel) (by decide) rfl (Nat.le_of_ble_eq_true rfl) hk hc
theorem r60_8 (d : Nat) (ls st : List Value) (σ : am_St) (τ : Int64) (x : Int32) : am_run d 60 8 ls (.int x :: st) σ τ = if x = 0 then am_run d 60 11 ls st σ τ else am_run d 60 14 ls st σ τ := (rr_if 14 dX9_write_8 (by decide)).trans am_seln
theorem r60_11 (d : Nat) (ls st : List Value) (σ : am_St) (τ : Int64) : am_run d 60 11 ls st σ τ = am_run d 60 13 ls (.int (-101) :: st) σ τ := rr_bipush (-101) dX9_write_11 (by decide)
theorem r60_13 (d : Nat) (ls : List Value) (σ : am_St) (τ : Int64) (x : Int32) : am_run d 60 13 ls [.int x] σ τ = some (some (.int x), σ, τ) := rr_iret dX9_write_13 rfl
theorem r60_14 (d : Nat) (st : List Value) (σ : am_St) (τ : Int64) (x : Int32) (v0 v1 v3 : Value) : am_run d 60 14 [v0, v1, .int x, v3] st σ τ = am_run d 60 15 [v0, v1, .int x, v3] (.int x :: st) σ τ := rr_iload_n dX9_write_14 rfl
theorem r60_15 (d : Nat) (ls st : List Value) (σ : am_St) (τ : Int64) : am_run d 60 15 ls st σ τ = am_run d 60 16 ls (.int (-1) :: st) σ τ := rr_iconst (-1) dX9_write_15 (by decide)
theorem r60_16 (d : Nat) (ls st : List Value) (σ : am_St) (τ : Int64) (x y : Int32) : am_run d 60 16 ls (.int y :: .int x :: st) σ τ = if x = y then am_run d 60 29 ls st σ τ else am_run d 60 19 ls st σ τ := (rr_icmp 29 dX9_write_16 (by decide)).trans am_sel
theorem r60_19 (d : Nat) (st : List Value) (σ : am_St) (τ : Int64) (x : Int32) (v0 v1 v3 : Value) : am_run d 60 19 [v0, v1, .int x, v3] st σ τ = am_run d 60 20 [v0, v1, .int x, v3] (.int x :: st) σ τ := rr_iload_n dX9_write_19 rfl
theorem r60_20 (d : Nat) (ls st : List Value) (σ : am_St) (τ : Int64) (a0 : Int32) (hc : am_cats st ≤ 8) : am_run (d + 1) 60 20 ls (.int a0 :: st) σ τ = (am_call d 81 [.int a0] σ τ).bind (fun r => am_run (d + 1) 60 23 ls (r.1.toList ++ st) r.2.1 r.2.2) := rr_invs [.int a0] dX9_write_20 (by decide +kernel) (by decide +kernel) (by decide) rfl (Nat.le_of_ble_eq_true rfl) hc
theorem r60_23 (d : Nat) (ls st : List Value) (σ : am_St) (τ : Int64) (x : Int32) : am_run d 60 23 ls (.int x :: st) σ τ = if x = 0 then am_run d 60 26 ls st σ τ else am_run d 60 29 ls st σ τ := (rr_if 29 dX9_write_23 (by decide)).trans am_seln
theorem r60_26 (d : Nat) (ls st : List Value) (σ : am_St) (τ : Int64) : am_run d 60 26 ls st σ τ = am_run d 60 28 ls (.int (-102) :: st) σ τ := rr_bipush (-102) dX9_write_26 (by decide)
theorem r60_28 (d : Nat) (ls : List Value) (σ : am_St) (τ : Int64) (x : Int32) : am_run d 60 28 ls [.int x] σ τ = some (some (.int x), σ, τ) := rr_iret dX9_write_28 rfl
theorem r60_29 (d : Nat) (st : List Value) (σ : am_St) (τ : Int64) (x : Nat) (v1 v2 v3 : Value) : am_run d 60 29 [.ref x, v1, v2, v3] st σ τ = am_run d 60 30 [.ref x, v1, v2, v3] (.ref x :: st) σ τ := rr_aload_n dX9_write_29 rfl
theorem r60_30 (d : Nat) (ls st : List Value) (σ : am_St) (τ : Int64) (k : Nat) : am_run d 60 30 ls (.ref k :: st) σ τ = am_gf k 9 2 σ τ (fun v => am_run d 60 33 ls (v :: st) σ τ) := rr_getf dX9_write_30 (by decide +kernel)
theorem r60_33 (d : Nat) (ls st : List Value) (σ : am_St) (τ : Int64) (k : Nat) : am_run d 60 33 ls (.ref k :: st) σ τ = am_gf k 1 8 σ τ (fun v => am_run d 60 36 ls (v :: st) σ τ) := rr_getf dX9_write_33 (by decide +kernel)
theorem r60_36 (d : Nat) (st : List Value) (σ : am_St) (τ : Int64) (x : Int32) (v0 v2 v3 : Value) : am_run d 60 36 [v0, .int x, v2, v3] st σ τ = am_run d 60 37 [v0, .int x, v2, v3] (.int x :: st) σ τ := rr_iload_n dX9_write_36 rfl
theorem r60_37 (d : Nat) (ls st : List Value) (σ : am_St) (τ : Int64) (i : Int32) (k : Nat) : am_run d 60 37 ls (.int i :: .ref k :: st) σ τ = am_ai false k i (fun j => am_run d 60 38 ls (.int (σ k j) :: st) σ τ) := rr_iald dX9_write_37
theorem r60_38 (d : Nat) (st : List Value) (σ : am_St) (τ : Int64) (x : Int32) (v0 v1 v2 v3 : Value) : am_run d 60 38 [v0, v1, v2, v3] (.int x :: st) σ τ = am_run d 60 39 [v0, v1, am_nl v2, .int x] st σ τ := rr_istore_n _ dX9_write_38 (by decide) (by first | rfl | (by_cases h : v2.category = 2 <;> simp [am_set1, am_nl, h]))
theorem r60_39 (d : Nat) (st : List Value) (σ : am_St) (τ : Int64) (x : Nat) (v1 v2 v3 : Value) : am_run d 60 39 [.ref x, v1, v2, v3] st σ τ = am_run d 60 40 [.ref x, v1, v2, v3] (.ref x :: st) σ τ := rr_aload_n dX9_write_39 rfl
theorem r60_40 (d : Nat) (ls st : List Value) (σ : am_St) (τ : Int64) (k : Nat) : am_run d 60 40 ls (.ref k :: st) σ τ = am_gf k 9 2 σ τ (fun v => am_run d 60 43 ls (v :: st) σ τ) := rr_getf dX9_write_40 (by decide +kernel)
theorem r60_43 (d : Nat) (ls st : List Value) (σ : am_St) (τ : Int64) (k : Nat) : am_run d 60 43 ls (.ref k :: st) σ τ = am_gf k 1 8 σ τ (fun v => am_run d 60 46 ls (v :: st) σ τ) := rr_getf dX9_write_43 (by decide +kernel)
theorem r60_46 (d : Nat) (st : List Value) (σ : am_St) (τ : Int64) (x : Int32) (v0 v2 v3 : Value) : am_run d 60 46 [v0, .int x, v2, v3] st σ τ = am_run d 60 47 [v0, .int x, v2, v3] (.int x :: st) σ τ := rr_iload_n dX9_write_46 rfl
theorem r60_47 (d : Nat) (st : List Value) (σ : am_St) (τ : Int64) (x : Int32) (v0 v1 v3 : Value) : am_run d 60 47 [v0, v1, .int x, v3] st σ τ = am_run d 60 48 [v0, v1, .int x, v3] (.int x :: st) σ τ := rr_iload_n dX9_write_47 rfl
theorem r60_48 (d : Nat) (ls st : List Value) (σ : am_St) (τ : Int64) (x i : Int32) (k : Nat) : am_run d 60 48 ls (.int x :: .int i :: .ref k :: st) σ τ = am_ai false k i (fun j => am_run d 60 49 ls st (am_up σ k j x) τ) := rr_iast dX9_write_48
theorem r60_49 (d : Nat) (st : List Value) (σ : am_St) (τ : Int64) (x : Int32) (v0 v1 v2 : Value) : am_run d 60 49 [v0, v1, v2, .int x] st σ τ = am_run d 60 50 [v0, v1, v2, .int x] (.int x :: st) σ τ := rr_iload_n dX9_write_49 rfl
theorem r60_50 (d : Nat) (ls : List Value) (σ : am_St) (τ : Int64) (x : Int32) : am_run d 60 50 ls [.int x] σ τ = some (some (.int x), σ, τ) := rr_iret dX9_write_50 rfl
theorem dX9_dies_0 : decode (am_code 61) 0 = .ok (.aload_n 0, 1) := by decide +kernel
theorem dX9_dies_1 : decode (am_code 61) 1 = .ok (.getfield 28, 3) := by decide +kernel
theorem dX9_dies_4 : decode (am_code 61) 4 = .ok (.iload_n 1, 1) := by decide +kernel
theorem dX9_dies_5 : decode (am_code 61) 5 = .ok (.invokevirtual 143, 3) := by decide +kernel
theorem dX9_dies_8 : decode (am_code 61) 8 = .ok (.ifCond .ne 6, 3) := by decide +kernel
theorem dX9_dies_11 : decode (am_code 61) 11 = .ok (.bipush (-101), 2) := by decide +kernel
theorem dX9_dies_13 : decode (am_code 61) 13 = .ok (.ireturn, 1) := by decide +kernel
theorem dX9_dies_14 : decode (am_code 61) 14 = .ok (.aload_n 0, 1) := by decide +kernel
theorem dX9_dies_15 : decode (am_code 61) 15 = .ok (.getfield 28, 3) := by decide +kernel
theorem dX9_dies_18 : decode (am_code 61) 18 = .ok (.getfield 169, 3) := by decide +kernel
theorem dX9_dies_21 : decode (am_code 61) 21 = .ok (.iload_n 1, 1) := by decide +kernel
theorem dX9_dies_22 : decode (am_code 61) 22 = .ok (.baload, 1) := by decide +kernel
theorem dX9_dies_23 : decode (am_code 61) 23 = .ok (.ifCond .ne 6, 3) := by decide +kernel
theorem dX9_dies_26 : decode (am_code 61) 26 = .ok (.bipush (-103), 2) := by decide +kernel
theorem dX9_dies_28 : decode (am_code 61) 28 = .ok (.ireturn, 1) := by decide +kernel
theorem dX9_dies_29 : decode (am_code 61) 29 = .ok (.aload_n 0, 1) := by decide +kernel
theorem dX9_dies_30 : decode (am_code 61) 30 = .ok (.getfield 28, 3) := by decide +kernel
theorem dX9_dies_33 : decode (am_code 61) 33 = .ok (.getfield 169, 3) := by decide +kernel
theorem dX9_dies_36 : decode (am_code 61) 36 = .ok (.iload_n 1, 1) := by decide +kernel
theorem dX9_dies_37 : decode (am_code 61) 37 = .ok (.iconst 0, 1) := by decide +kernel
theorem dX9_dies_38 : decode (am_code 61) 38 = .ok (.bastore, 1) := by decide +kernel
theorem dX9_dies_39 : decode (am_code 61) 39 = .ok (.aload_n 0, 1) := by decide +kernel
theorem dX9_dies_40 : decode (am_code 61) 40 = .ok (.getfield 28, 3) := by decide +kernel
theorem dX9_dies_43 : decode (am_code 61) 43 = .ok (.invokevirtual 181, 3) := by decide +kernel
theorem dX9_dies_46 : decode (am_code 61) 46 = .ok (.ireturn, 1) := by decide +kernel
theorem r61_0 (d : Nat) (st : List Value) (σ : am_St) (τ : Int64) (x : Nat) (v1 : Value) : am_run d 61 0 [.ref x, v1] st σ τ = am_run d 61 1 [.ref x, v1] (.ref x :: st) σ τ := rr_aload_n dX9_dies_0 rfl
theorem r61_1 (d : Nat) (ls st : List Value) (σ : am_St) (τ : Int64) (k : Nat) : am_run d 61 1 ls (.ref k :: st) σ τ = am_gf k 9 2 σ τ (fun v => am_run d 61 4 ls (v :: st) σ τ) := rr_getf dX9_dies_1 (by decide +kernel)
theorem r61_4 (d : Nat) (st : List Value) (σ : am_St) (τ : Int64) (x : Int32) (v0 : Value) : am_run d 61 4 [v0, .int x] st σ τ = am_run d 61 5 [v0, .int x] (.int x :: st) σ τ := rr_iload_n dX9_dies_4 rfl
theorem r61_5 (d : Nat) (ls st : List Value) (σ : am_St) (τ : Int64) (k : Nat) (a0 : Int32) (hk : am_kc k = 1) (hc : am_cats st ≤ 8) : am_run (d + 1) 61 5 ls (.int a0 :: .ref k :: st) σ τ = (am_call d 6 [.ref k, .int a0] σ τ).bind (fun r => am_run (d + 1) 61 8 ls (r.1.toList ++ st) r.2.1 r.2.2) := rr_invv [.int a0] dX9_dies_5 (by decide +kernel) (by decide) rfl (Nat.le_of_ble_eq_true rfl) hk hc
theorem r61_8 (d : Nat) (ls st : List Value) (σ : am_St) (τ : Int64) (x : Int32) : am_run d 61 8 ls (.int x :: st) σ τ = if x = 0 then am_run d 61 11 ls st σ τ else am_run d 61 14 ls st σ τ := (rr_if 14 dX9_dies_8 (by decide)).trans am_seln
theorem r61_11 (d : Nat) (ls st : List Value) (σ : am_St) (τ : Int64) : am_run d 61 11 ls st σ τ = am_run d 61 13 ls (.int (-101) :: st) σ τ := rr_bipush (-101) dX9_dies_11 (by decide)
theorem r61_13 (d : Nat) (ls : List Value) (σ : am_St) (τ : Int64) (x : Int32) : am_run d 61 13 ls [.int x] σ τ = some (some (.int x), σ, τ) := rr_iret dX9_dies_13 rfl
theorem r61_14 (d : Nat) (st : List Value) (σ : am_St) (τ : Int64) (x : Nat) (v1 : Value) : am_run d 61 14 [.ref x, v1] st σ τ = am_run d 61 15 [.ref x, v1] (.ref x :: st) σ τ := rr_aload_n dX9_dies_14 rfl
theorem r61_15 (d : Nat) (ls st : List Value) (σ : am_St) (τ : Int64) (k : Nat) : am_run d 61 15 ls (.ref k :: st) σ τ = am_gf k 9 2 σ τ (fun v => am_run d 61 18 ls (v :: st) σ τ) := rr_getf dX9_dies_15 (by decide +kernel)
theorem r61_18 (d : Nat) (ls st : List Value) (σ : am_St) (τ : Int64) (k : Nat) : am_run d 61 18 ls (.ref k :: st) σ τ = am_gf k 1 9 σ τ (fun v => am_run d 61 21 ls (v :: st) σ τ) := rr_getf dX9_dies_18 (by decide +kernel)
theorem r61_21 (d : Nat) (st : List Value) (σ : am_St) (τ : Int64) (x : Int32) (v0 : Value) : am_run d 61 21 [v0, .int x] st σ τ = am_run d 61 22 [v0, .int x] (.int x :: st) σ τ := rr_iload_n dX9_dies_21 rfl
theorem r61_22 (d : Nat) (ls st : List Value) (σ : am_St) (τ : Int64) (i : Int32) (k : Nat) : am_run d 61 22 ls (.int i :: .ref k :: st) σ τ = am_ai true k i (fun j => am_run d 61 23 ls (.int (σ k j) :: st) σ τ) := rr_bald dX9_dies_22
theorem r61_23 (d : Nat) (ls st : List Value) (σ : am_St) (τ : Int64) (x : Int32) : am_run d 61 23 ls (.int x :: st) σ τ = if x = 0 then am_run d 61 26 ls st σ τ else am_run d 61 29 ls st σ τ := (rr_if 29 dX9_dies_23 (by decide)).trans am_seln
theorem r61_26 (d : Nat) (ls st : List Value) (σ : am_St) (τ : Int64) : am_run d 61 26 ls st σ τ = am_run d 61 28 ls (.int (-103) :: st) σ τ := rr_bipush (-103) dX9_dies_26 (by decide)
theorem r61_28 (d : Nat) (ls : List Value) (σ : am_St) (τ : Int64) (x : Int32) : am_run d 61 28 ls [.int x] σ τ = some (some (.int x), σ, τ) := rr_iret dX9_dies_28 rfl
theorem r61_29 (d : Nat) (st : List Value) (σ : am_St) (τ : Int64) (x : Nat) (v1 : Value) : am_run d 61 29 [.ref x, v1] st σ τ = am_run d 61 30 [.ref x, v1] (.ref x :: st) σ τ := rr_aload_n dX9_dies_29 rfl
theorem r61_30 (d : Nat) (ls st : List Value) (σ : am_St) (τ : Int64) (k : Nat) : am_run d 61 30 ls (.ref k :: st) σ τ = am_gf k 9 2 σ τ (fun v => am_run d 61 33 ls (v :: st) σ τ) := rr_getf dX9_dies_30 (by decide +kernel)
theorem r61_33 (d : Nat) (ls st : List Value) (σ : am_St) (τ : Int64) (k : Nat) : am_run d 61 33 ls (.ref k :: st) σ τ = am_gf k 1 9 σ τ (fun v => am_run d 61 36 ls (v :: st) σ τ) := rr_getf dX9_dies_33 (by decide +kernel)
theorem r61_36 (d : Nat) (st : List Value) (σ : am_St) (τ : Int64) (x : Int32) (v0 : Value) : am_run d 61 36 [v0, .int x] st σ τ = am_run d 61 37 [v0, .int x] (.int x :: st) σ τ := rr_iload_n dX9_dies_36 rfl
theorem r61_37 (d : Nat) (ls st : List Value) (σ : am_St) (τ : Int64) : am_run d 61 37 ls st σ τ = am_run d 61 38 ls (.int 0 :: st) σ τ := rr_iconst 0 dX9_dies_37 (by decide)
theorem r61_38 (d : Nat) (ls st : List Value) (σ : am_St) (τ : Int64) (x i : Int32) (k : Nat) : am_run d 61 38 ls (.int x :: .int i :: .ref k :: st) σ τ = am_ai true k i (fun j => am_run d 61 39 ls st (am_up σ k j (vp_nar .boolean x)) τ) := rr_bast dX9_dies_38
theorem r61_39 (d : Nat) (st : List Value) (σ : am_St) (τ : Int64) (x : Nat) (v1 : Value) : am_run d 61 39 [.ref x, v1] st σ τ = am_run d 61 40 [.ref x, v1] (.ref x :: st) σ τ := rr_aload_n dX9_dies_39 rfl
theorem r61_40 (d : Nat) (ls st : List Value) (σ : am_St) (τ : Int64) (k : Nat) : am_run d 61 40 ls (.ref k :: st) σ τ = am_gf k 9 2 σ τ (fun v => am_run d 61 43 ls (v :: st) σ τ) := rr_getf dX9_dies_40 (by decide +kernel)
theorem r61_43 (d : Nat) (ls st : List Value) (σ : am_St) (τ : Int64) (k : Nat)  (hk : am_kc k = 1) (hc : am_cats st ≤ 8) : am_run (d + 1) 61 43 ls (.ref k :: st) σ τ = (am_call d 12 [.ref k] σ τ).bind (fun r => am_run (d + 1) 61 46 ls (r.1.toList ++ st) r.2.1 r.2.2) := rr_invv [] dX9_dies_43 (by decide +kernel) (by decide) rfl (Nat.le_of_ble_eq_true rfl) hk hc
theorem r61_46 (d : Nat) (ls : List Value) (σ : am_St) (τ : Int64) (x : Int32) : am_run d 61 46 ls [.int x] σ τ = some (some (.int x), σ, τ) := rr_iret dX9_dies_46 rfl
theorem dX9_wrong_0 : decode (am_code 62) 0 = .ok (.iload_n 1, 1) := by decide +kernel
theorem dX9_wrong_1 : decode (am_code 62) 1 = .ok (.lookupswitch 43 #[(0, 27), (1, 35)], 27) := by decide +kernel
theorem dX9_wrong_28 : decode (am_code 62) 28 = .ok (.aload_n 0, 1) := by decide +kernel
theorem dX9_wrong_29 : decode (am_code 62) 29 = .ok (.getfield 37, 3) := by decide +kernel
theorem dX9_wrong_32 : decode (am_code 62) 32 = .ok (.invokevirtual 184, 3) := by decide +kernel
theorem dX9_wrong_35 : decode (am_code 62) 35 = .ok (.ireturn, 1) := by decide +kernel
theorem dX9_wrong_36 : decode (am_code 62) 36 = .ok (.aload_n 0, 1) := by decide +kernel
theorem dX9_wrong_37 : decode (am_code 62) 37 = .ok (.getfield 37, 3) := by decide +kernel
theorem dX9_wrong_40 : decode (am_code 62) 40 = .ok (.invokevirtual 187, 3) := by decide +kernel
theorem dX9_wrong_43 : decode (am_code 62) 43 = .ok (.ireturn, 1) := by decide +kernel
theorem dX9_wrong_44 : decode (am_code 62) 44 = .ok (.bipush (-102), 2) := by decide +kernel
theorem dX9_wrong_46 : decode (am_code 62) 46 = .ok (.ireturn, 1) := by decide +kernel
theorem r62_0 (d : Nat) (st : List Value) (σ : am_St) (τ : Int64) (x : Int32) (v0 : Value) : am_run d 62 0 [v0, .int x] st σ τ = am_run d 62 1 [v0, .int x] (.int x :: st) σ τ := rr_iload_n dX9_wrong_0 rfl
theorem r62_1 (d : Nat) (ls st : List Value) (σ : am_St) (τ : Int64) (x : Int32) : am_run d 62 1 ls (.int x :: st) σ τ = am_run d 62 (am_lsw x [(0, 28), (1, 36)] 44) ls st σ τ := rr_lsw [(0, 28), (1, 36)] 44 dX9_wrong_1 (by decide) (by decide) (by decide)
theorem r62_28 (d : Nat) (st : List Value) (σ : am_St) (τ : Int64) (x : Nat) (v1 : Value) : am_run d 62 28 [.ref x, v1] st σ τ = am_run d 62 29 [.ref x, v1] (.ref x :: st) σ τ := rr_aload_n dX9_wrong_28 rfl
theorem r62_29 (d : Nat) (ls st : List Value) (σ : am_St) (τ : Int64) (k : Nat) : am_run d 62 29 ls (.ref k :: st) σ τ = am_gf k 9 3 σ τ (fun v => am_run d 62 32 ls (v :: st) σ τ) := rr_getf dX9_wrong_29 (by decide +kernel)
theorem r62_32 (d : Nat) (ls st : List Value) (σ : am_St) (τ : Int64) (k : Nat)  (hk : am_kc k = 7) (hc : am_cats st ≤ 8) : am_run (d + 1) 62 32 ls (.ref k :: st) σ τ = (am_call d 42 [.ref k] σ τ).bind (fun r => am_run (d + 1) 62 35 ls (r.1.toList ++ st) r.2.1 r.2.2) := rr_invv [] dX9_wrong_32 (by decide +kernel) (by decide) rfl (Nat.le_of_ble_eq_true rfl) hk hc
theorem r62_35 (d : Nat) (ls : List Value) (σ : am_St) (τ : Int64) (x : Int32) : am_run d 62 35 ls [.int x] σ τ = some (some (.int x), σ, τ) := rr_iret dX9_wrong_35 rfl
theorem r62_36 (d : Nat) (st : List Value) (σ : am_St) (τ : Int64) (x : Nat) (v1 : Value) : am_run d 62 36 [.ref x, v1] st σ τ = am_run d 62 37 [.ref x, v1] (.ref x :: st) σ τ := rr_aload_n dX9_wrong_36 rfl
theorem r62_37 (d : Nat) (ls st : List Value) (σ : am_St) (τ : Int64) (k : Nat) : am_run d 62 37 ls (.ref k :: st) σ τ = am_gf k 9 3 σ τ (fun v => am_run d 62 40 ls (v :: st) σ τ) := rr_getf dX9_wrong_37 (by decide +kernel)
theorem r62_40 (d : Nat) (ls st : List Value) (σ : am_St) (τ : Int64) (k : Nat)  (hk : am_kc k = 7) (hc : am_cats st ≤ 8) : am_run (d + 1) 62 40 ls (.ref k :: st) σ τ = (am_call d 43 [.ref k] σ τ).bind (fun r => am_run (d + 1) 62 43 ls (r.1.toList ++ st) r.2.1 r.2.2) := rr_invv [] dX9_wrong_40 (by decide +kernel) (by decide) rfl (Nat.le_of_ble_eq_true rfl) hk hc
theorem r62_43 (d : Nat) (ls : List Value) (σ : am_St) (τ : Int64) (x : Int32) : am_run d 62 43 ls [.int x] σ τ = some (some (.int x), σ, τ) := rr_iret dX9_wrong_43 rfl
theorem r62_44 (d : Nat) (ls st : List Value) (σ : am_St) (τ : Int64) : am_run d 62 44 ls st σ τ = am_run d 62 46 ls (.int (-102) :: st) σ τ := rr_bipush (-102) dX9_wrong_44 (by decide)
theorem r62_46 (d : Nat) (ls : List Value) (σ : am_St) (τ : Int64) (x : Int32) : am_run d 62 46 ls [.int x] σ τ = some (some (.int x), σ, τ) := rr_iret dX9_wrong_46 rfl
theorem dX9_mended_0 : decode (am_code 63) 0 = .ok (.iload_n 1, 1) := by decide +kernel
theorem dX9_mended_1 : decode (am_code 63) 1 = .ok (.ifCond .lt 8, 3) := by decide +kernel
theorem dX9_mended_4 : decode (am_code 63) 4 = .ok (.iload_n 1, 1) := by decide +kernel
theorem dX9_mended_5 : decode (am_code 63) 5 = .ok (.iconst 4, 1) := by decide +kernel
theorem dX9_mended_6 : decode (am_code 63) 6 = .ok (.if_icmp .le 6, 3) := by decide +kernel
theorem dX9_mended_9 : decode (am_code 63) 9 = .ok (.bipush (-102), 2) := by decide +kernel
theorem dX9_mended_11 : decode (am_code 63) 11 = .ok (.ireturn, 1) := by decide +kernel
theorem dX9_mended_12 : decode (am_code 63) 12 = .ok (.aload_n 0, 1) := by decide +kernel
theorem dX9_mended_13 : decode (am_code 63) 13 = .ok (.getfield 28, 3) := by decide +kernel
theorem dX9_mended_16 : decode (am_code 63) 16 = .ok (.invokevirtual 190, 3) := by decide +kernel
theorem dX9_mended_19 : decode (am_code 63) 19 = .ok (.iconst 4, 1) := by decide +kernel
theorem dX9_mended_20 : decode (am_code 63) 20 = .ok (.if_icmp .gt 12, 3) := by decide +kernel
theorem dX9_mended_23 : decode (am_code 63) 23 = .ok (.aload_n 0, 1) := by decide +kernel
theorem dX9_mended_24 : decode (am_code 63) 24 = .ok (.getfield 193, 3) := by decide +kernel
theorem dX9_mended_27 : decode (am_code 63) 27 = .ok (.bipush 40, 2) := by decide +kernel
theorem dX9_mended_29 : decode (am_code 63) 29 = .ok (.if_icmp .lt 6, 3) := by decide +kernel
theorem dX9_mended_32 : decode (am_code 63) 32 = .ok (.bipush (-103), 2) := by decide +kernel
theorem dX9_mended_34 : decode (am_code 63) 34 = .ok (.ireturn, 1) := by decide +kernel
theorem dX9_mended_35 : decode (am_code 63) 35 = .ok (.aload_n 0, 1) := by decide +kernel
theorem dX9_mended_36 : decode (am_code 63) 36 = .ok (.dup, 1) := by decide +kernel
theorem dX9_mended_37 : decode (am_code 63) 37 = .ok (.getfield 193, 3) := by decide +kernel
theorem dX9_mended_40 : decode (am_code 63) 40 = .ok (.iconst 1, 1) := by decide +kernel
theorem dX9_mended_41 : decode (am_code 63) 41 = .ok (.iadd, 1) := by decide +kernel
theorem dX9_mended_42 : decode (am_code 63) 42 = .ok (.putfield 193, 3) := by decide +kernel
theorem dX9_mended_45 : decode (am_code 63) 45 = .ok (.aload_n 0, 1) := by decide +kernel
theorem dX9_mended_46 : decode (am_code 63) 46 = .ok (.getfield 46, 3) := by decide +kernel
theorem dX9_mended_49 : decode (am_code 63) 49 = .ok (.aload_n 0, 1) := by decide +kernel
theorem dX9_mended_50 : decode (am_code 63) 50 = .ok (.getfield 21, 3) := by decide +kernel
theorem dX9_mended_53 : decode (am_code 63) 53 = .ok (.invokevirtual 196, 3) := by decide +kernel
theorem dX9_mended_56 : decode (am_code 63) 56 = .ok (.iload_n 1, 1) := by decide +kernel
theorem dX9_mended_57 : decode (am_code 63) 57 = .ok (.ifCond .ne 13, 3) := by decide +kernel
theorem dX9_mended_60 : decode (am_code 63) 60 = .ok (.aload_n 0, 1) := by decide +kernel
theorem dX9_mended_61 : decode (am_code 63) 61 = .ok (.getfield 46, 3) := by decide +kernel
theorem dX9_mended_64 : decode (am_code 63) 64 = .ok (.getfield 199, 3) := by decide +kernel
theorem dX9_mended_67 : decode (am_code 63) 67 = .ok (.goto 13, 3) := by decide +kernel
theorem dX9_mended_70 : decode (am_code 63) 70 = .ok (.aload_n 0, 1) := by decide +kernel
theorem dX9_mended_71 : decode (am_code 63) 71 = .ok (.getfield 46, 3) := by decide +kernel
theorem dX9_mended_74 : decode (am_code 63) 74 = .ok (.iload_n 1, 1) := by decide +kernel
theorem dX9_mended_75 : decode (am_code 63) 75 = .ok (.iconst 1, 1) := by decide +kernel
theorem dX9_mended_76 : decode (am_code 63) 76 = .ok (.isub, 1) := by decide +kernel
theorem dX9_mended_77 : decode (am_code 63) 77 = .ok (.invokevirtual 202, 3) := by decide +kernel
theorem dX9_mended_80 : decode (am_code 63) 80 = .ok (.ireturn, 1) := by decide +kernel
theorem r63_0 (d : Nat) (st : List Value) (σ : am_St) (τ : Int64) (x : Int32) (v0 : Value) : am_run d 63 0 [v0, .int x] st σ τ = am_run d 63 1 [v0, .int x] (.int x :: st) σ τ := rr_iload_n dX9_mended_0 rfl
theorem r63_1 (d : Nat) (ls st : List Value) (σ : am_St) (τ : Int64) (x : Int32) : am_run d 63 1 ls (.int x :: st) σ τ = if x < 0 then am_run d 63 9 ls st σ τ else am_run d 63 4 ls st σ τ := (rr_if 9 dX9_mended_1 (by decide)).trans am_sel
theorem r63_4 (d : Nat) (st : List Value) (σ : am_St) (τ : Int64) (x : Int32) (v0 : Value) : am_run d 63 4 [v0, .int x] st σ τ = am_run d 63 5 [v0, .int x] (.int x :: st) σ τ := rr_iload_n dX9_mended_4 rfl
theorem r63_5 (d : Nat) (ls st : List Value) (σ : am_St) (τ : Int64) : am_run d 63 5 ls st σ τ = am_run d 63 6 ls (.int 4 :: st) σ τ := rr_iconst 4 dX9_mended_5 (by decide)
theorem r63_6 (d : Nat) (ls st : List Value) (σ : am_St) (τ : Int64) (x y : Int32) : am_run d 63 6 ls (.int y :: .int x :: st) σ τ = if x ≤ y then am_run d 63 12 ls st σ τ else am_run d 63 9 ls st σ τ := (rr_icmp 12 dX9_mended_6 (by decide)).trans am_sel
theorem r63_9 (d : Nat) (ls st : List Value) (σ : am_St) (τ : Int64) : am_run d 63 9 ls st σ τ = am_run d 63 11 ls (.int (-102) :: st) σ τ := rr_bipush (-102) dX9_mended_9 (by decide)
theorem r63_11 (d : Nat) (ls : List Value) (σ : am_St) (τ : Int64) (x : Int32) : am_run d 63 11 ls [.int x] σ τ = some (some (.int x), σ, τ) := rr_iret dX9_mended_11 rfl
theorem r63_12 (d : Nat) (st : List Value) (σ : am_St) (τ : Int64) (x : Nat) (v1 : Value) : am_run d 63 12 [.ref x, v1] st σ τ = am_run d 63 13 [.ref x, v1] (.ref x :: st) σ τ := rr_aload_n dX9_mended_12 rfl
theorem r63_13 (d : Nat) (ls st : List Value) (σ : am_St) (τ : Int64) (k : Nat) : am_run d 63 13 ls (.ref k :: st) σ τ = am_gf k 9 2 σ τ (fun v => am_run d 63 16 ls (v :: st) σ τ) := rr_getf dX9_mended_13 (by decide +kernel)
theorem r63_16 (d : Nat) (ls st : List Value) (σ : am_St) (τ : Int64) (k : Nat)  (hk : am_kc k = 1) (hc : am_cats st ≤ 8) : am_run (d + 1) 63 16 ls (.ref k :: st) σ τ = (am_call d 14 [.ref k] σ τ).bind (fun r => am_run (d + 1) 63 19 ls (r.1.toList ++ st) r.2.1 r.2.2) := rr_invv [] dX9_mended_16 (by decide +kernel) (by decide) rfl (Nat.le_of_ble_eq_true rfl) hk hc
theorem r63_19 (d : Nat) (ls st : List Value) (σ : am_St) (τ : Int64) : am_run d 63 19 ls st σ τ = am_run d 63 20 ls (.int 4 :: st) σ τ := rr_iconst 4 dX9_mended_19 (by decide)
theorem r63_20 (d : Nat) (ls st : List Value) (σ : am_St) (τ : Int64) (x y : Int32) : am_run d 63 20 ls (.int y :: .int x :: st) σ τ = if y < x then am_run d 63 32 ls st σ τ else am_run d 63 23 ls st σ τ := (rr_icmp 32 dX9_mended_20 (by decide)).trans am_sel
theorem r63_23 (d : Nat) (st : List Value) (σ : am_St) (τ : Int64) (x : Nat) (v1 : Value) : am_run d 63 23 [.ref x, v1] st σ τ = am_run d 63 24 [.ref x, v1] (.ref x :: st) σ τ := rr_aload_n dX9_mended_23 rfl
theorem r63_24 (d : Nat) (ls st : List Value) (σ : am_St) (τ : Int64) (k : Nat) : am_run d 63 24 ls (.ref k :: st) σ τ = am_gf k 9 10 σ τ (fun v => am_run d 63 27 ls (v :: st) σ τ) := rr_getf dX9_mended_24 (by decide +kernel)
theorem r63_27 (d : Nat) (ls st : List Value) (σ : am_St) (τ : Int64) : am_run d 63 27 ls st σ τ = am_run d 63 29 ls (.int 40 :: st) σ τ := rr_bipush 40 dX9_mended_27 (by decide)
theorem r63_29 (d : Nat) (ls st : List Value) (σ : am_St) (τ : Int64) (x y : Int32) : am_run d 63 29 ls (.int y :: .int x :: st) σ τ = if x < y then am_run d 63 35 ls st σ τ else am_run d 63 32 ls st σ τ := (rr_icmp 35 dX9_mended_29 (by decide)).trans am_sel
theorem r63_32 (d : Nat) (ls st : List Value) (σ : am_St) (τ : Int64) : am_run d 63 32 ls st σ τ = am_run d 63 34 ls (.int (-103) :: st) σ τ := rr_bipush (-103) dX9_mended_32 (by decide)
theorem r63_34 (d : Nat) (ls : List Value) (σ : am_St) (τ : Int64) (x : Int32) : am_run d 63 34 ls [.int x] σ τ = some (some (.int x), σ, τ) := rr_iret dX9_mended_34 rfl
theorem r63_35 (d : Nat) (st : List Value) (σ : am_St) (τ : Int64) (x : Nat) (v1 : Value) : am_run d 63 35 [.ref x, v1] st σ τ = am_run d 63 36 [.ref x, v1] (.ref x :: st) σ τ := rr_aload_n dX9_mended_35 rfl
theorem r63_36 (d : Nat) (ls st : List Value) (σ : am_St) (τ : Int64) (x : Nat) : am_run d 63 36 ls (.ref x :: st) σ τ = am_run d 63 37 ls (.ref x :: .ref x :: st) σ τ := rr_dup_r dX9_mended_36
theorem r63_36i (d : Nat) (ls st : List Value) (σ : am_St) (τ : Int64) (x : Int32) : am_run d 63 36 ls (.int x :: st) σ τ = am_run d 63 37 ls (.int x :: .int x :: st) σ τ := rr_dup_i dX9_mended_36
theorem r63_37 (d : Nat) (ls st : List Value) (σ : am_St) (τ : Int64) (k : Nat) : am_run d 63 37 ls (.ref k :: st) σ τ = am_gf k 9 10 σ τ (fun v => am_run d 63 40 ls (v :: st) σ τ) := rr_getf dX9_mended_37 (by decide +kernel)
theorem r63_40 (d : Nat) (ls st : List Value) (σ : am_St) (τ : Int64) : am_run d 63 40 ls st σ τ = am_run d 63 41 ls (.int 1 :: st) σ τ := rr_iconst 1 dX9_mended_40 (by decide)
theorem r63_41 (d : Nat) (ls st : List Value) (σ : am_St) (τ : Int64) (x y : Int32) : am_run d 63 41 ls (.int y :: .int x :: st) σ τ = am_run d 63 42 ls (.int (x + y) :: st) σ τ := rr_iadd dX9_mended_41
theorem r63_42 (d : Nat) (ls st : List Value) (σ : am_St) (τ : Int64) (k : Nat) (x : Int32) : am_run d 63 42 ls (.int x :: .ref k :: st) σ τ = am_pf k 9 10 x σ (fun σ => am_run d 63 45 ls st σ τ) := rr_putf dX9_mended_42 (by decide +kernel)
theorem r63_45 (d : Nat) (st : List Value) (σ : am_St) (τ : Int64) (x : Nat) (v1 : Value) : am_run d 63 45 [.ref x, v1] st σ τ = am_run d 63 46 [.ref x, v1] (.ref x :: st) σ τ := rr_aload_n dX9_mended_45 rfl
theorem r63_46 (d : Nat) (ls st : List Value) (σ : am_St) (τ : Int64) (k : Nat) : am_run d 63 46 ls (.ref k :: st) σ τ = am_gf k 9 4 σ τ (fun v => am_run d 63 49 ls (v :: st) σ τ) := rr_getf dX9_mended_46 (by decide +kernel)
theorem r63_49 (d : Nat) (st : List Value) (σ : am_St) (τ : Int64) (x : Nat) (v1 : Value) : am_run d 63 49 [.ref x, v1] st σ τ = am_run d 63 50 [.ref x, v1] (.ref x :: st) σ τ := rr_aload_n dX9_mended_49 rfl
theorem r63_50 (d : Nat) (ls st : List Value) (σ : am_St) (τ : Int64) (k : Nat) : am_run d 63 50 ls (.ref k :: st) σ τ = am_gf k 9 1 σ τ (fun v => am_run d 63 53 ls (v :: st) σ τ) := rr_getf dX9_mended_50 (by decide +kernel)
theorem r63_53 (d : Nat) (ls st : List Value) (σ : am_St) (τ : Int64) (k : Nat) (a0 : Nat) (hk : am_kc k = 6) (hc : am_cats st ≤ 8) : am_run (d + 1) 63 53 ls (.ref a0 :: .ref k :: st) σ τ = (am_call d 30 [.ref k, .ref a0] σ τ).bind (fun r => am_run (d + 1) 63 56 ls (r.1.toList ++ st) r.2.1 r.2.2) := rr_invv [.ref a0] dX9_mended_53 (by decide +kernel) (by decide) rfl (Nat.le_of_ble_eq_true rfl) hk hc
theorem r63_56 (d : Nat) (st : List Value) (σ : am_St) (τ : Int64) (x : Int32) (v0 : Value) : am_run d 63 56 [v0, .int x] st σ τ = am_run d 63 57 [v0, .int x] (.int x :: st) σ τ := rr_iload_n dX9_mended_56 rfl
theorem r63_57 (d : Nat) (ls st : List Value) (σ : am_St) (τ : Int64) (x : Int32) : am_run d 63 57 ls (.int x :: st) σ τ = if x = 0 then am_run d 63 60 ls st σ τ else am_run d 63 70 ls st σ τ := (rr_if 70 dX9_mended_57 (by decide)).trans am_seln
theorem r63_60 (d : Nat) (st : List Value) (σ : am_St) (τ : Int64) (x : Nat) (v1 : Value) : am_run d 63 60 [.ref x, v1] st σ τ = am_run d 63 61 [.ref x, v1] (.ref x :: st) σ τ := rr_aload_n dX9_mended_60 rfl
theorem r63_61 (d : Nat) (ls st : List Value) (σ : am_St) (τ : Int64) (k : Nat) : am_run d 63 61 ls (.ref k :: st) σ τ = am_gf k 9 4 σ τ (fun v => am_run d 63 64 ls (v :: st) σ τ) := rr_getf dX9_mended_61 (by decide +kernel)
theorem r63_64 (d : Nat) (ls st : List Value) (σ : am_St) (τ : Int64) (k : Nat) : am_run d 63 64 ls (.ref k :: st) σ τ = am_gf k 6 0 σ τ (fun v => am_run d 63 67 ls (v :: st) σ τ) := rr_getf dX9_mended_64 (by decide +kernel)
theorem r63_67 (d : Nat) (ls st : List Value) (σ : am_St) (τ : Int64) : am_run d 63 67 ls st σ τ = am_run d 63 80 ls st σ τ := rr_goto 80 dX9_mended_67 (by decide)
theorem r63_70 (d : Nat) (st : List Value) (σ : am_St) (τ : Int64) (x : Nat) (v1 : Value) : am_run d 63 70 [.ref x, v1] st σ τ = am_run d 63 71 [.ref x, v1] (.ref x :: st) σ τ := rr_aload_n dX9_mended_70 rfl
theorem r63_71 (d : Nat) (ls st : List Value) (σ : am_St) (τ : Int64) (k : Nat) : am_run d 63 71 ls (.ref k :: st) σ τ = am_gf k 9 4 σ τ (fun v => am_run d 63 74 ls (v :: st) σ τ) := rr_getf dX9_mended_71 (by decide +kernel)
theorem r63_74 (d : Nat) (st : List Value) (σ : am_St) (τ : Int64) (x : Int32) (v0 : Value) : am_run d 63 74 [v0, .int x] st σ τ = am_run d 63 75 [v0, .int x] (.int x :: st) σ τ := rr_iload_n dX9_mended_74 rfl
theorem r63_75 (d : Nat) (ls st : List Value) (σ : am_St) (τ : Int64) : am_run d 63 75 ls st σ τ = am_run d 63 76 ls (.int 1 :: st) σ τ := rr_iconst 1 dX9_mended_75 (by decide)
theorem r63_76 (d : Nat) (ls st : List Value) (σ : am_St) (τ : Int64) (x y : Int32) : am_run d 63 76 ls (.int y :: .int x :: st) σ τ = am_run d 63 77 ls (.int (x - y) :: st) σ τ := rr_isub dX9_mended_76
theorem r63_77 (d : Nat) (ls st : List Value) (σ : am_St) (τ : Int64) (k : Nat) (a0 : Int32) (hk : am_kc k = 6) (hc : am_cats st ≤ 8) : am_run (d + 1) 63 77 ls (.int a0 :: .ref k :: st) σ τ = (am_call d 31 [.ref k, .int a0] σ τ).bind (fun r => am_run (d + 1) 63 80 ls (r.1.toList ++ st) r.2.1 r.2.2) := rr_invv [.int a0] dX9_mended_77 (by decide +kernel) (by decide) rfl (Nat.le_of_ble_eq_true rfl) hk hc
theorem r63_80 (d : Nat) (ls : List Value) (σ : am_St) (τ : Int64) (x : Int32) : am_run d 63 80 ls [.int x] σ τ = some (some (.int x), σ, τ) := rr_iret dX9_mended_80 rfl
theorem dX9_ways_0 : decode (am_code 64) 0 = .ok (.aload_n 0, 1) := by decide +kernel
theorem dX9_ways_1 : decode (am_code 64) 1 = .ok (.getfield 53, 3) := by decide +kernel
theorem dX9_ways_4 : decode (am_code 64) 4 = .ok (.aload_n 0, 1) := by decide +kernel
theorem dX9_ways_5 : decode (am_code 64) 5 = .ok (.getfield 21, 3) := by decide +kernel
theorem dX9_ways_8 : decode (am_code 64) 8 = .ok (.invokevirtual 206, 3) := by decide +kernel
theorem dX9_ways_11 : decode (am_code 64) 11 = .ok (.aload_n 0, 1) := by decide +kernel
theorem dX9_ways_12 : decode (am_code 64) 12 = .ok (.getfield 53, 3) := by decide +kernel
theorem dX9_ways_15 : decode (am_code 64) 15 = .ok (.getfield 207, 3) := by decide +kernel
theorem dX9_ways_18 : decode (am_code 64) 18 = .ok (.ireturn, 1) := by decide +kernel
theorem r64_0 (d : Nat) (st : List Value) (σ : am_St) (τ : Int64) (x : Nat) : am_run d 64 0 [.ref x] st σ τ = am_run d 64 1 [.ref x] (.ref x :: st) σ τ := rr_aload_n dX9_ways_0 rfl
theorem r64_1 (d : Nat) (ls st : List Value) (σ : am_St) (τ : Int64) (k : Nat) : am_run d 64 1 ls (.ref k :: st) σ τ = am_gf k 9 5 σ τ (fun v => am_run d 64 4 ls (v :: st) σ τ) := rr_getf dX9_ways_1 (by decide +kernel)
theorem r64_4 (d : Nat) (st : List Value) (σ : am_St) (τ : Int64) (x : Nat) : am_run d 64 4 [.ref x] st σ τ = am_run d 64 5 [.ref x] (.ref x :: st) σ τ := rr_aload_n dX9_ways_4 rfl
theorem r64_5 (d : Nat) (ls st : List Value) (σ : am_St) (τ : Int64) (k : Nat) : am_run d 64 5 ls (.ref k :: st) σ τ = am_gf k 9 1 σ τ (fun v => am_run d 64 8 ls (v :: st) σ τ) := rr_getf dX9_ways_5 (by decide +kernel)
theorem r64_8 (d : Nat) (ls st : List Value) (σ : am_St) (τ : Int64) (k : Nat) (a0 : Nat) (hk : am_kc k = 2) (hc : am_cats st ≤ 8) : am_run (d + 1) 64 8 ls (.ref a0 :: .ref k :: st) σ τ = (am_call d 20 [.ref k, .ref a0] σ τ).bind (fun r => am_run (d + 1) 64 11 ls (r.1.toList ++ st) r.2.1 r.2.2) := rr_invv [.ref a0] dX9_ways_8 (by decide +kernel) (by decide) rfl (Nat.le_of_ble_eq_true rfl) hk hc
theorem r64_11 (d : Nat) (st : List Value) (σ : am_St) (τ : Int64) (x : Nat) : am_run d 64 11 [.ref x] st σ τ = am_run d 64 12 [.ref x] (.ref x :: st) σ τ := rr_aload_n dX9_ways_11 rfl
theorem r64_12 (d : Nat) (ls st : List Value) (σ : am_St) (τ : Int64) (k : Nat) : am_run d 64 12 ls (.ref k :: st) σ τ = am_gf k 9 5 σ τ (fun v => am_run d 64 15 ls (v :: st) σ τ) := rr_getf dX9_ways_12 (by decide +kernel)
theorem r64_15 (d : Nat) (ls st : List Value) (σ : am_St) (τ : Int64) (k : Nat) : am_run d 64 15 ls (.ref k :: st) σ τ = am_gf k 2 0 σ τ (fun v => am_run d 64 18 ls (v :: st) σ τ) := rr_getf dX9_ways_15 (by decide +kernel)
theorem r64_18 (d : Nat) (ls : List Value) (σ : am_St) (τ : Int64) (x : Int32) : am_run d 64 18 ls [.int x] σ τ = some (some (.int x), σ, τ) := rr_iret dX9_ways_18 rfl
theorem dX9_sure_0 : decode (am_code 65) 0 = .ok (.aload_n 0, 1) := by decide +kernel
theorem dX9_sure_1 : decode (am_code 65) 1 = .ok (.getfield 28, 3) := by decide +kernel
theorem dX9_sure_4 : decode (am_code 65) 4 = .ok (.iload_n 1, 1) := by decide +kernel
theorem dX9_sure_5 : decode (am_code 65) 5 = .ok (.invokevirtual 143, 3) := by decide +kernel
theorem dX9_sure_8 : decode (am_code 65) 8 = .ok (.ifCond .ne 6, 3) := by decide +kernel
theorem dX9_sure_11 : decode (am_code 65) 11 = .ok (.bipush (-101), 2) := by decide +kernel
theorem dX9_sure_13 : decode (am_code 65) 13 = .ok (.ireturn, 1) := by decide +kernel
theorem dX9_sure_14 : decode (am_code 65) 14 = .ok (.aload_n 0, 1) := by decide +kernel
theorem dX9_sure_15 : decode (am_code 65) 15 = .ok (.getfield 53, 3) := by decide +kernel
theorem dX9_sure_18 : decode (am_code 65) 18 = .ok (.aload_n 0, 1) := by decide +kernel
theorem dX9_sure_19 : decode (am_code 65) 19 = .ok (.getfield 21, 3) := by decide +kernel
theorem dX9_sure_22 : decode (am_code 65) 22 = .ok (.invokevirtual 206, 3) := by decide +kernel
theorem dX9_sure_25 : decode (am_code 65) 25 = .ok (.aload_n 0, 1) := by decide +kernel
theorem dX9_sure_26 : decode (am_code 65) 26 = .ok (.getfield 53, 3) := by decide +kernel
theorem dX9_sure_29 : decode (am_code 65) 29 = .ok (.getfield 210, 3) := by decide +kernel
theorem dX9_sure_32 : decode (am_code 65) 32 = .ok (.iload_n 1, 1) := by decide +kernel
theorem dX9_sure_33 : decode (am_code 65) 33 = .ok (.iaload, 1) := by decide +kernel
theorem dX9_sure_34 : decode (am_code 65) 34 = .ok (.ireturn, 1) := by decide +kernel
theorem r65_0 (d : Nat) (st : List Value) (σ : am_St) (τ : Int64) (x : Nat) (v1 : Value) : am_run d 65 0 [.ref x, v1] st σ τ = am_run d 65 1 [.ref x, v1] (.ref x :: st) σ τ := rr_aload_n dX9_sure_0 rfl
theorem r65_1 (d : Nat) (ls st : List Value) (σ : am_St) (τ : Int64) (k : Nat) : am_run d 65 1 ls (.ref k :: st) σ τ = am_gf k 9 2 σ τ (fun v => am_run d 65 4 ls (v :: st) σ τ) := rr_getf dX9_sure_1 (by decide +kernel)
theorem r65_4 (d : Nat) (st : List Value) (σ : am_St) (τ : Int64) (x : Int32) (v0 : Value) : am_run d 65 4 [v0, .int x] st σ τ = am_run d 65 5 [v0, .int x] (.int x :: st) σ τ := rr_iload_n dX9_sure_4 rfl
theorem r65_5 (d : Nat) (ls st : List Value) (σ : am_St) (τ : Int64) (k : Nat) (a0 : Int32) (hk : am_kc k = 1) (hc : am_cats st ≤ 8) : am_run (d + 1) 65 5 ls (.int a0 :: .ref k :: st) σ τ = (am_call d 6 [.ref k, .int a0] σ τ).bind (fun r => am_run (d + 1) 65 8 ls (r.1.toList ++ st) r.2.1 r.2.2) := rr_invv [.int a0] dX9_sure_5 (by decide +kernel) (by decide) rfl (Nat.le_of_ble_eq_true rfl) hk hc
theorem r65_8 (d : Nat) (ls st : List Value) (σ : am_St) (τ : Int64) (x : Int32) : am_run d 65 8 ls (.int x :: st) σ τ = if x = 0 then am_run d 65 11 ls st σ τ else am_run d 65 14 ls st σ τ := (rr_if 14 dX9_sure_8 (by decide)).trans am_seln
theorem r65_11 (d : Nat) (ls st : List Value) (σ : am_St) (τ : Int64) : am_run d 65 11 ls st σ τ = am_run d 65 13 ls (.int (-101) :: st) σ τ := rr_bipush (-101) dX9_sure_11 (by decide)
theorem r65_13 (d : Nat) (ls : List Value) (σ : am_St) (τ : Int64) (x : Int32) : am_run d 65 13 ls [.int x] σ τ = some (some (.int x), σ, τ) := rr_iret dX9_sure_13 rfl
theorem r65_14 (d : Nat) (st : List Value) (σ : am_St) (τ : Int64) (x : Nat) (v1 : Value) : am_run d 65 14 [.ref x, v1] st σ τ = am_run d 65 15 [.ref x, v1] (.ref x :: st) σ τ := rr_aload_n dX9_sure_14 rfl
theorem r65_15 (d : Nat) (ls st : List Value) (σ : am_St) (τ : Int64) (k : Nat) : am_run d 65 15 ls (.ref k :: st) σ τ = am_gf k 9 5 σ τ (fun v => am_run d 65 18 ls (v :: st) σ τ) := rr_getf dX9_sure_15 (by decide +kernel)
theorem r65_18 (d : Nat) (st : List Value) (σ : am_St) (τ : Int64) (x : Nat) (v1 : Value) : am_run d 65 18 [.ref x, v1] st σ τ = am_run d 65 19 [.ref x, v1] (.ref x :: st) σ τ := rr_aload_n dX9_sure_18 rfl
theorem r65_19 (d : Nat) (ls st : List Value) (σ : am_St) (τ : Int64) (k : Nat) : am_run d 65 19 ls (.ref k :: st) σ τ = am_gf k 9 1 σ τ (fun v => am_run d 65 22 ls (v :: st) σ τ) := rr_getf dX9_sure_19 (by decide +kernel)
theorem r65_22 (d : Nat) (ls st : List Value) (σ : am_St) (τ : Int64) (k : Nat) (a0 : Nat) (hk : am_kc k = 2) (hc : am_cats st ≤ 8) : am_run (d + 1) 65 22 ls (.ref a0 :: .ref k :: st) σ τ = (am_call d 20 [.ref k, .ref a0] σ τ).bind (fun r => am_run (d + 1) 65 25 ls (r.1.toList ++ st) r.2.1 r.2.2) := rr_invv [.ref a0] dX9_sure_22 (by decide +kernel) (by decide) rfl (Nat.le_of_ble_eq_true rfl) hk hc
theorem r65_25 (d : Nat) (st : List Value) (σ : am_St) (τ : Int64) (x : Nat) (v1 : Value) : am_run d 65 25 [.ref x, v1] st σ τ = am_run d 65 26 [.ref x, v1] (.ref x :: st) σ τ := rr_aload_n dX9_sure_25 rfl
theorem r65_26 (d : Nat) (ls st : List Value) (σ : am_St) (τ : Int64) (k : Nat) : am_run d 65 26 ls (.ref k :: st) σ τ = am_gf k 9 5 σ τ (fun v => am_run d 65 29 ls (v :: st) σ τ) := rr_getf dX9_sure_26 (by decide +kernel)
theorem r65_29 (d : Nat) (ls st : List Value) (σ : am_St) (τ : Int64) (k : Nat) : am_run d 65 29 ls (.ref k :: st) σ τ = am_gf k 2 1 σ τ (fun v => am_run d 65 32 ls (v :: st) σ τ) := rr_getf dX9_sure_29 (by decide +kernel)
theorem r65_32 (d : Nat) (st : List Value) (σ : am_St) (τ : Int64) (x : Int32) (v0 : Value) : am_run d 65 32 [v0, .int x] st σ τ = am_run d 65 33 [v0, .int x] (.int x :: st) σ τ := rr_iload_n dX9_sure_32 rfl
theorem r65_33 (d : Nat) (ls st : List Value) (σ : am_St) (τ : Int64) (i : Int32) (k : Nat) : am_run d 65 33 ls (.int i :: .ref k :: st) σ τ = am_ai false k i (fun j => am_run d 65 34 ls (.int (σ k j) :: st) σ τ) := rr_iald dX9_sure_33
theorem r65_34 (d : Nat) (ls : List Value) (σ : am_St) (τ : Int64) (x : Int32) : am_run d 65 34 ls [.int x] σ τ = some (some (.int x), σ, τ) := rr_iret dX9_sure_34 rfl
theorem dX9_laws_0 : decode (am_code 66) 0 = .ok (.iload_n 1, 1) := by decide +kernel
theorem dX9_laws_1 : decode (am_code 66) 1 = .ok (.ifCond .lt 8, 3) := by decide +kernel
theorem dX9_laws_4 : decode (am_code 66) 4 = .ok (.iload_n 1, 1) := by decide +kernel
theorem dX9_laws_5 : decode (am_code 66) 5 = .ok (.iconst 3, 1) := by decide +kernel
theorem dX9_laws_6 : decode (am_code 66) 6 = .ok (.if_icmp .le 6, 3) := by decide +kernel
theorem dX9_laws_9 : decode (am_code 66) 9 = .ok (.bipush (-102), 2) := by decide +kernel
theorem dX9_laws_11 : decode (am_code 66) 11 = .ok (.ireturn, 1) := by decide +kernel
theorem dX9_laws_12 : decode (am_code 66) 12 = .ok (.aload_n 0, 1) := by decide +kernel
theorem dX9_laws_13 : decode (am_code 66) 13 = .ok (.getfield 60, 3) := by decide +kernel
theorem dX9_laws_16 : decode (am_code 66) 16 = .ok (.aload_n 0, 1) := by decide +kernel
theorem dX9_laws_17 : decode (am_code 66) 17 = .ok (.getfield 21, 3) := by decide +kernel
theorem dX9_laws_20 : decode (am_code 66) 20 = .ok (.getfield 117, 3) := by decide +kernel
theorem dX9_laws_23 : decode (am_code 66) 23 = .ok (.invokevirtual 213, 3) := by decide +kernel
theorem dX9_laws_26 : decode (am_code 66) 26 = .ok (.aload_n 0, 1) := by decide +kernel
theorem dX9_laws_27 : decode (am_code 66) 27 = .ok (.getfield 60, 3) := by decide +kernel
theorem dX9_laws_30 : decode (am_code 66) 30 = .ok (.iload_n 1, 1) := by decide +kernel
theorem dX9_laws_31 : decode (am_code 66) 31 = .ok (.invokevirtual 215, 3) := by decide +kernel
theorem dX9_laws_34 : decode (am_code 66) 34 = .ok (.ireturn, 1) := by decide +kernel
theorem r66_0 (d : Nat) (st : List Value) (σ : am_St) (τ : Int64) (x : Int32) (v0 : Value) : am_run d 66 0 [v0, .int x] st σ τ = am_run d 66 1 [v0, .int x] (.int x :: st) σ τ := rr_iload_n dX9_laws_0 rfl
theorem r66_1 (d : Nat) (ls st : List Value) (σ : am_St) (τ : Int64) (x : Int32) : am_run d 66 1 ls (.int x :: st) σ τ = if x < 0 then am_run d 66 9 ls st σ τ else am_run d 66 4 ls st σ τ := (rr_if 9 dX9_laws_1 (by decide)).trans am_sel
theorem r66_4 (d : Nat) (st : List Value) (σ : am_St) (τ : Int64) (x : Int32) (v0 : Value) : am_run d 66 4 [v0, .int x] st σ τ = am_run d 66 5 [v0, .int x] (.int x :: st) σ τ := rr_iload_n dX9_laws_4 rfl
theorem r66_5 (d : Nat) (ls st : List Value) (σ : am_St) (τ : Int64) : am_run d 66 5 ls st σ τ = am_run d 66 6 ls (.int 3 :: st) σ τ := rr_iconst 3 dX9_laws_5 (by decide)
theorem r66_6 (d : Nat) (ls st : List Value) (σ : am_St) (τ : Int64) (x y : Int32) : am_run d 66 6 ls (.int y :: .int x :: st) σ τ = if x ≤ y then am_run d 66 12 ls st σ τ else am_run d 66 9 ls st σ τ := (rr_icmp 12 dX9_laws_6 (by decide)).trans am_sel
theorem r66_9 (d : Nat) (ls st : List Value) (σ : am_St) (τ : Int64) : am_run d 66 9 ls st σ τ = am_run d 66 11 ls (.int (-102) :: st) σ τ := rr_bipush (-102) dX9_laws_9 (by decide)
theorem r66_11 (d : Nat) (ls : List Value) (σ : am_St) (τ : Int64) (x : Int32) : am_run d 66 11 ls [.int x] σ τ = some (some (.int x), σ, τ) := rr_iret dX9_laws_11 rfl
theorem r66_12 (d : Nat) (st : List Value) (σ : am_St) (τ : Int64) (x : Nat) (v1 : Value) : am_run d 66 12 [.ref x, v1] st σ τ = am_run d 66 13 [.ref x, v1] (.ref x :: st) σ τ := rr_aload_n dX9_laws_12 rfl
theorem r66_13 (d : Nat) (ls st : List Value) (σ : am_St) (τ : Int64) (k : Nat) : am_run d 66 13 ls (.ref k :: st) σ τ = am_gf k 9 6 σ τ (fun v => am_run d 66 16 ls (v :: st) σ τ) := rr_getf dX9_laws_13 (by decide +kernel)
theorem r66_16 (d : Nat) (st : List Value) (σ : am_St) (τ : Int64) (x : Nat) (v1 : Value) : am_run d 66 16 [.ref x, v1] st σ τ = am_run d 66 17 [.ref x, v1] (.ref x :: st) σ τ := rr_aload_n dX9_laws_16 rfl
theorem r66_17 (d : Nat) (ls st : List Value) (σ : am_St) (τ : Int64) (k : Nat) : am_run d 66 17 ls (.ref k :: st) σ τ = am_gf k 9 1 σ τ (fun v => am_run d 66 20 ls (v :: st) σ τ) := rr_getf dX9_laws_17 (by decide +kernel)
theorem r66_20 (d : Nat) (ls st : List Value) (σ : am_St) (τ : Int64) (k : Nat) : am_run d 66 20 ls (.ref k :: st) σ τ = am_gf k 4 3 σ τ (fun v => am_run d 66 23 ls (v :: st) σ τ) := rr_getf dX9_laws_20 (by decide +kernel)
theorem r66_23 (d : Nat) (ls st : List Value) (σ : am_St) (τ : Int64) (k : Nat) (a0 : Int32) (hk : am_kc k = 5) (hc : am_cats st ≤ 8) : am_run (d + 1) 66 23 ls (.int a0 :: .ref k :: st) σ τ = (am_call d 26 [.ref k, .int a0] σ τ).bind (fun r => am_run (d + 1) 66 26 ls (r.1.toList ++ st) r.2.1 r.2.2) := rr_invv [.int a0] dX9_laws_23 (by decide +kernel) (by decide) rfl (Nat.le_of_ble_eq_true rfl) hk hc
theorem r66_26 (d : Nat) (st : List Value) (σ : am_St) (τ : Int64) (x : Nat) (v1 : Value) : am_run d 66 26 [.ref x, v1] st σ τ = am_run d 66 27 [.ref x, v1] (.ref x :: st) σ τ := rr_aload_n dX9_laws_26 rfl
theorem r66_27 (d : Nat) (ls st : List Value) (σ : am_St) (τ : Int64) (k : Nat) : am_run d 66 27 ls (.ref k :: st) σ τ = am_gf k 9 6 σ τ (fun v => am_run d 66 30 ls (v :: st) σ τ) := rr_getf dX9_laws_27 (by decide +kernel)
theorem r66_30 (d : Nat) (st : List Value) (σ : am_St) (τ : Int64) (x : Int32) (v0 : Value) : am_run d 66 30 [v0, .int x] st σ τ = am_run d 66 31 [v0, .int x] (.int x :: st) σ τ := rr_iload_n dX9_laws_30 rfl
theorem r66_31 (d : Nat) (ls st : List Value) (σ : am_St) (τ : Int64) (k : Nat) (a0 : Int32) (hk : am_kc k = 5) (hc : am_cats st ≤ 8) : am_run (d + 1) 66 31 ls (.int a0 :: .ref k :: st) σ τ = (am_call d 27 [.ref k, .int a0] σ τ).bind (fun r => am_run (d + 1) 66 34 ls (r.1.toList ++ st) r.2.1 r.2.2) := rr_invv [.int a0] dX9_laws_31 (by decide +kernel) (by decide) rfl (Nat.le_of_ble_eq_true rfl) hk hc
theorem r66_34 (d : Nat) (ls : List Value) (σ : am_St) (τ : Int64) (x : Int32) : am_run d 66 34 ls [.int x] σ τ = some (some (.int x), σ, τ) := rr_iret dX9_laws_34 rfl
theorem dX9_near_0 : decode (am_code 67) 0 = .ok (.aload_n 0, 1) := by decide +kernel
theorem dX9_near_1 : decode (am_code 67) 1 = .ok (.getfield 28, 3) := by decide +kernel
theorem dX9_near_4 : decode (am_code 67) 4 = .ok (.iload_n 1, 1) := by decide +kernel
theorem dX9_near_5 : decode (am_code 67) 5 = .ok (.invokevirtual 143, 3) := by decide +kernel
theorem dX9_near_8 : decode (am_code 67) 8 = .ok (.ifCond .eq 14, 3) := by decide +kernel
theorem dX9_near_11 : decode (am_code 67) 11 = .ok (.aload_n 0, 1) := by decide +kernel
theorem dX9_near_12 : decode (am_code 67) 12 = .ok (.getfield 28, 3) := by decide +kernel
theorem dX9_near_15 : decode (am_code 67) 15 = .ok (.iload_n 2, 1) := by decide +kernel
theorem dX9_near_16 : decode (am_code 67) 16 = .ok (.invokevirtual 143, 3) := by decide +kernel
theorem dX9_near_19 : decode (am_code 67) 19 = .ok (.ifCond .ne 6, 3) := by decide +kernel
theorem dX9_near_22 : decode (am_code 67) 22 = .ok (.bipush (-101), 2) := by decide +kernel
theorem dX9_near_24 : decode (am_code 67) 24 = .ok (.ireturn, 1) := by decide +kernel
theorem dX9_near_25 : decode (am_code 67) 25 = .ok (.aload_n 0, 1) := by decide +kernel
theorem dX9_near_26 : decode (am_code 67) 26 = .ok (.getfield 28, 3) := by decide +kernel
theorem dX9_near_29 : decode (am_code 67) 29 = .ok (.iload_n 1, 1) := by decide +kernel
theorem dX9_near_30 : decode (am_code 67) 30 = .ok (.iload_n 2, 1) := by decide +kernel
theorem dX9_near_31 : decode (am_code 67) 31 = .ok (.invokevirtual 218, 3) := by decide +kernel
theorem dX9_near_34 : decode (am_code 67) 34 = .ok (.ireturn, 1) := by decide +kernel
theorem r67_0 (d : Nat) (st : List Value) (σ : am_St) (τ : Int64) (x : Nat) (v1 v2 : Value) : am_run d 67 0 [.ref x, v1, v2] st σ τ = am_run d 67 1 [.ref x, v1, v2] (.ref x :: st) σ τ := rr_aload_n dX9_near_0 rfl
theorem r67_1 (d : Nat) (ls st : List Value) (σ : am_St) (τ : Int64) (k : Nat) : am_run d 67 1 ls (.ref k :: st) σ τ = am_gf k 9 2 σ τ (fun v => am_run d 67 4 ls (v :: st) σ τ) := rr_getf dX9_near_1 (by decide +kernel)
theorem r67_4 (d : Nat) (st : List Value) (σ : am_St) (τ : Int64) (x : Int32) (v0 v2 : Value) : am_run d 67 4 [v0, .int x, v2] st σ τ = am_run d 67 5 [v0, .int x, v2] (.int x :: st) σ τ := rr_iload_n dX9_near_4 rfl
theorem r67_5 (d : Nat) (ls st : List Value) (σ : am_St) (τ : Int64) (k : Nat) (a0 : Int32) (hk : am_kc k = 1) (hc : am_cats st ≤ 8) : am_run (d + 1) 67 5 ls (.int a0 :: .ref k :: st) σ τ = (am_call d 6 [.ref k, .int a0] σ τ).bind (fun r => am_run (d + 1) 67 8 ls (r.1.toList ++ st) r.2.1 r.2.2) := rr_invv [.int a0] dX9_near_5 (by decide +kernel) (by decide) rfl (Nat.le_of_ble_eq_true rfl) hk hc
theorem r67_8 (d : Nat) (ls st : List Value) (σ : am_St) (τ : Int64) (x : Int32) : am_run d 67 8 ls (.int x :: st) σ τ = if x = 0 then am_run d 67 22 ls st σ τ else am_run d 67 11 ls st σ τ := (rr_if 22 dX9_near_8 (by decide)).trans am_sel
theorem r67_11 (d : Nat) (st : List Value) (σ : am_St) (τ : Int64) (x : Nat) (v1 v2 : Value) : am_run d 67 11 [.ref x, v1, v2] st σ τ = am_run d 67 12 [.ref x, v1, v2] (.ref x :: st) σ τ := rr_aload_n dX9_near_11 rfl
theorem r67_12 (d : Nat) (ls st : List Value) (σ : am_St) (τ : Int64) (k : Nat) : am_run d 67 12 ls (.ref k :: st) σ τ = am_gf k 9 2 σ τ (fun v => am_run d 67 15 ls (v :: st) σ τ) := rr_getf dX9_near_12 (by decide +kernel)
theorem r67_15 (d : Nat) (st : List Value) (σ : am_St) (τ : Int64) (x : Int32) (v0 v1 : Value) : am_run d 67 15 [v0, v1, .int x] st σ τ = am_run d 67 16 [v0, v1, .int x] (.int x :: st) σ τ := rr_iload_n dX9_near_15 rfl
theorem r67_16 (d : Nat) (ls st : List Value) (σ : am_St) (τ : Int64) (k : Nat) (a0 : Int32) (hk : am_kc k = 1) (hc : am_cats st ≤ 8) : am_run (d + 1) 67 16 ls (.int a0 :: .ref k :: st) σ τ = (am_call d 6 [.ref k, .int a0] σ τ).bind (fun r => am_run (d + 1) 67 19 ls (r.1.toList ++ st) r.2.1 r.2.2) := rr_invv [.int a0] dX9_near_16 (by decide +kernel) (by decide) rfl (Nat.le_of_ble_eq_true rfl) hk hc
theorem r67_19 (d : Nat) (ls st : List Value) (σ : am_St) (τ : Int64) (x : Int32) : am_run d 67 19 ls (.int x :: st) σ τ = if x = 0 then am_run d 67 22 ls st σ τ else am_run d 67 25 ls st σ τ := (rr_if 25 dX9_near_19 (by decide)).trans am_seln
theorem r67_22 (d : Nat) (ls st : List Value) (σ : am_St) (τ : Int64) : am_run d 67 22 ls st σ τ = am_run d 67 24 ls (.int (-101) :: st) σ τ := rr_bipush (-101) dX9_near_22 (by decide)
theorem r67_24 (d : Nat) (ls : List Value) (σ : am_St) (τ : Int64) (x : Int32) : am_run d 67 24 ls [.int x] σ τ = some (some (.int x), σ, τ) := rr_iret dX9_near_24 rfl
theorem r67_25 (d : Nat) (st : List Value) (σ : am_St) (τ : Int64) (x : Nat) (v1 v2 : Value) : am_run d 67 25 [.ref x, v1, v2] st σ τ = am_run d 67 26 [.ref x, v1, v2] (.ref x :: st) σ τ := rr_aload_n dX9_near_25 rfl
theorem r67_26 (d : Nat) (ls st : List Value) (σ : am_St) (τ : Int64) (k : Nat) : am_run d 67 26 ls (.ref k :: st) σ τ = am_gf k 9 2 σ τ (fun v => am_run d 67 29 ls (v :: st) σ τ) := rr_getf dX9_near_26 (by decide +kernel)
theorem r67_29 (d : Nat) (st : List Value) (σ : am_St) (τ : Int64) (x : Int32) (v0 v2 : Value) : am_run d 67 29 [v0, .int x, v2] st σ τ = am_run d 67 30 [v0, .int x, v2] (.int x :: st) σ τ := rr_iload_n dX9_near_29 rfl
theorem r67_30 (d : Nat) (st : List Value) (σ : am_St) (τ : Int64) (x : Int32) (v0 v1 : Value) : am_run d 67 30 [v0, v1, .int x] st σ τ = am_run d 67 31 [v0, v1, .int x] (.int x :: st) σ τ := rr_iload_n dX9_near_30 rfl
theorem r67_31 (d : Nat) (ls st : List Value) (σ : am_St) (τ : Int64) (k : Nat) (a0 : Int32) (a1 : Int32) (hk : am_kc k = 1) (hc : am_cats st ≤ 8) : am_run (d + 1) 67 31 ls (.int a1 :: .int a0 :: .ref k :: st) σ τ = (am_call d 18 [.ref k, .int a0, .int a1] σ τ).bind (fun r => am_run (d + 1) 67 34 ls (r.1.toList ++ st) r.2.1 r.2.2) := rr_invv [.int a0, .int a1] dX9_near_31 (by decide +kernel) (by decide) rfl (Nat.le_of_ble_eq_true rfl) hk hc
theorem r67_34 (d : Nat) (ls : List Value) (σ : am_St) (τ : Int64) (x : Int32) : am_run d 67 34 ls [.int x] σ τ = some (some (.int x), σ, τ) := rr_iret dX9_near_34 rfl
theorem dX9_kin_0 : decode (am_code 68) 0 = .ok (.aload_n 0, 1) := by decide +kernel
theorem dX9_kin_1 : decode (am_code 68) 1 = .ok (.getfield 28, 3) := by decide +kernel
theorem dX9_kin_4 : decode (am_code 68) 4 = .ok (.iload_n 1, 1) := by decide +kernel
theorem dX9_kin_5 : decode (am_code 68) 5 = .ok (.invokevirtual 143, 3) := by decide +kernel
theorem dX9_kin_8 : decode (am_code 68) 8 = .ok (.ifCond .ne 6, 3) := by decide +kernel
theorem dX9_kin_11 : decode (am_code 68) 11 = .ok (.bipush (-101), 2) := by decide +kernel
theorem dX9_kin_13 : decode (am_code 68) 13 = .ok (.ireturn, 1) := by decide +kernel
theorem dX9_kin_14 : decode (am_code 68) 14 = .ok (.aload_n 0, 1) := by decide +kernel
theorem dX9_kin_15 : decode (am_code 68) 15 = .ok (.getfield 28, 3) := by decide +kernel
theorem dX9_kin_18 : decode (am_code 68) 18 = .ok (.iload_n 1, 1) := by decide +kernel
theorem dX9_kin_19 : decode (am_code 68) 19 = .ok (.invokevirtual 222, 3) := by decide +kernel
theorem dX9_kin_22 : decode (am_code 68) 22 = .ok (.ireturn, 1) := by decide +kernel
theorem r68_0 (d : Nat) (st : List Value) (σ : am_St) (τ : Int64) (x : Nat) (v1 : Value) : am_run d 68 0 [.ref x, v1] st σ τ = am_run d 68 1 [.ref x, v1] (.ref x :: st) σ τ := rr_aload_n dX9_kin_0 rfl
theorem r68_1 (d : Nat) (ls st : List Value) (σ : am_St) (τ : Int64) (k : Nat) : am_run d 68 1 ls (.ref k :: st) σ τ = am_gf k 9 2 σ τ (fun v => am_run d 68 4 ls (v :: st) σ τ) := rr_getf dX9_kin_1 (by decide +kernel)
theorem r68_4 (d : Nat) (st : List Value) (σ : am_St) (τ : Int64) (x : Int32) (v0 : Value) : am_run d 68 4 [v0, .int x] st σ τ = am_run d 68 5 [v0, .int x] (.int x :: st) σ τ := rr_iload_n dX9_kin_4 rfl
theorem r68_5 (d : Nat) (ls st : List Value) (σ : am_St) (τ : Int64) (k : Nat) (a0 : Int32) (hk : am_kc k = 1) (hc : am_cats st ≤ 8) : am_run (d + 1) 68 5 ls (.int a0 :: .ref k :: st) σ τ = (am_call d 6 [.ref k, .int a0] σ τ).bind (fun r => am_run (d + 1) 68 8 ls (r.1.toList ++ st) r.2.1 r.2.2) := rr_invv [.int a0] dX9_kin_5 (by decide +kernel) (by decide) rfl (Nat.le_of_ble_eq_true rfl) hk hc
theorem r68_8 (d : Nat) (ls st : List Value) (σ : am_St) (τ : Int64) (x : Int32) : am_run d 68 8 ls (.int x :: st) σ τ = if x = 0 then am_run d 68 11 ls st σ τ else am_run d 68 14 ls st σ τ := (rr_if 14 dX9_kin_8 (by decide)).trans am_seln
theorem r68_11 (d : Nat) (ls st : List Value) (σ : am_St) (τ : Int64) : am_run d 68 11 ls st σ τ = am_run d 68 13 ls (.int (-101) :: st) σ τ := rr_bipush (-101) dX9_kin_11 (by decide)
theorem r68_13 (d : Nat) (ls : List Value) (σ : am_St) (τ : Int64) (x : Int32) : am_run d 68 13 ls [.int x] σ τ = some (some (.int x), σ, τ) := rr_iret dX9_kin_13 rfl
theorem r68_14 (d : Nat) (st : List Value) (σ : am_St) (τ : Int64) (x : Nat) (v1 : Value) : am_run d 68 14 [.ref x, v1] st σ τ = am_run d 68 15 [.ref x, v1] (.ref x :: st) σ τ := rr_aload_n dX9_kin_14 rfl
theorem r68_15 (d : Nat) (ls st : List Value) (σ : am_St) (τ : Int64) (k : Nat) : am_run d 68 15 ls (.ref k :: st) σ τ = am_gf k 9 2 σ τ (fun v => am_run d 68 18 ls (v :: st) σ τ) := rr_getf dX9_kin_15 (by decide +kernel)
theorem r68_18 (d : Nat) (st : List Value) (σ : am_St) (τ : Int64) (x : Int32) (v0 : Value) : am_run d 68 18 [v0, .int x] st σ τ = am_run d 68 19 [v0, .int x] (.int x :: st) σ τ := rr_iload_n dX9_kin_18 rfl
theorem r68_19 (d : Nat) (ls st : List Value) (σ : am_St) (τ : Int64) (k : Nat) (a0 : Int32) (hk : am_kc k = 1) (hc : am_cats st ≤ 8) : am_run (d + 1) 68 19 ls (.int a0 :: .ref k :: st) σ τ = (am_call d 19 [.ref k, .int a0] σ τ).bind (fun r => am_run (d + 1) 68 22 ls (r.1.toList ++ st) r.2.1 r.2.2) := rr_invv [.int a0] dX9_kin_19 (by decide +kernel) (by decide) rfl (Nat.le_of_ble_eq_true rfl) hk hc
theorem r68_22 (d : Nat) (ls : List Value) (σ : am_St) (τ : Int64) (x : Int32) : am_run d 68 22 ls [.int x] σ τ = some (some (.int x), σ, τ) := rr_iret dX9_kin_22 rfl
theorem dX9_may_0 : decode (am_code 69) 0 = .ok (.aload_n 0, 1) := by decide +kernel
theorem dX9_may_1 : decode (am_code 69) 1 = .ok (.getfield 28, 3) := by decide +kernel
theorem dX9_may_4 : decode (am_code 69) 4 = .ok (.iload_n 1, 1) := by decide +kernel
theorem dX9_may_5 : decode (am_code 69) 5 = .ok (.invokevirtual 143, 3) := by decide +kernel
theorem dX9_may_8 : decode (am_code 69) 8 = .ok (.ifCond .eq 14, 3) := by decide +kernel
theorem dX9_may_11 : decode (am_code 69) 11 = .ok (.aload_n 0, 1) := by decide +kernel
theorem dX9_may_12 : decode (am_code 69) 12 = .ok (.getfield 28, 3) := by decide +kernel
theorem dX9_may_15 : decode (am_code 69) 15 = .ok (.iload_n 2, 1) := by decide +kernel
theorem dX9_may_16 : decode (am_code 69) 16 = .ok (.invokevirtual 143, 3) := by decide +kernel
theorem dX9_may_19 : decode (am_code 69) 19 = .ok (.ifCond .ne 6, 3) := by decide +kernel
theorem dX9_may_22 : decode (am_code 69) 22 = .ok (.bipush (-101), 2) := by decide +kernel
theorem dX9_may_24 : decode (am_code 69) 24 = .ok (.ireturn, 1) := by decide +kernel
theorem dX9_may_25 : decode (am_code 69) 25 = .ok (.aload_n 0, 1) := by decide +kernel
theorem dX9_may_26 : decode (am_code 69) 26 = .ok (.getfield 67, 3) := by decide +kernel
theorem dX9_may_29 : decode (am_code 69) 29 = .ok (.iload_n 1, 1) := by decide +kernel
theorem dX9_may_30 : decode (am_code 69) 30 = .ok (.iload_n 2, 1) := by decide +kernel
theorem dX9_may_31 : decode (am_code 69) 31 = .ok (.invokevirtual 225, 3) := by decide +kernel
theorem dX9_may_34 : decode (am_code 69) 34 = .ok (.ifCond .eq 7, 3) := by decide +kernel
theorem dX9_may_37 : decode (am_code 69) 37 = .ok (.iconst 1, 1) := by decide +kernel
theorem dX9_may_38 : decode (am_code 69) 38 = .ok (.goto 4, 3) := by decide +kernel
theorem dX9_may_41 : decode (am_code 69) 41 = .ok (.iconst 0, 1) := by decide +kernel
theorem dX9_may_42 : decode (am_code 69) 42 = .ok (.ireturn, 1) := by decide +kernel
theorem r69_0 (d : Nat) (st : List Value) (σ : am_St) (τ : Int64) (x : Nat) (v1 v2 : Value) : am_run d 69 0 [.ref x, v1, v2] st σ τ = am_run d 69 1 [.ref x, v1, v2] (.ref x :: st) σ τ := rr_aload_n dX9_may_0 rfl
theorem r69_1 (d : Nat) (ls st : List Value) (σ : am_St) (τ : Int64) (k : Nat) : am_run d 69 1 ls (.ref k :: st) σ τ = am_gf k 9 2 σ τ (fun v => am_run d 69 4 ls (v :: st) σ τ) := rr_getf dX9_may_1 (by decide +kernel)
theorem r69_4 (d : Nat) (st : List Value) (σ : am_St) (τ : Int64) (x : Int32) (v0 v2 : Value) : am_run d 69 4 [v0, .int x, v2] st σ τ = am_run d 69 5 [v0, .int x, v2] (.int x :: st) σ τ := rr_iload_n dX9_may_4 rfl
theorem r69_5 (d : Nat) (ls st : List Value) (σ : am_St) (τ : Int64) (k : Nat) (a0 : Int32) (hk : am_kc k = 1) (hc : am_cats st ≤ 8) : am_run (d + 1) 69 5 ls (.int a0 :: .ref k :: st) σ τ = (am_call d 6 [.ref k, .int a0] σ τ).bind (fun r => am_run (d + 1) 69 8 ls (r.1.toList ++ st) r.2.1 r.2.2) := rr_invv [.int a0] dX9_may_5 (by decide +kernel) (by decide) rfl (Nat.le_of_ble_eq_true rfl) hk hc
theorem r69_8 (d : Nat) (ls st : List Value) (σ : am_St) (τ : Int64) (x : Int32) : am_run d 69 8 ls (.int x :: st) σ τ = if x = 0 then am_run d 69 22 ls st σ τ else am_run d 69 11 ls st σ τ := (rr_if 22 dX9_may_8 (by decide)).trans am_sel
theorem r69_11 (d : Nat) (st : List Value) (σ : am_St) (τ : Int64) (x : Nat) (v1 v2 : Value) : am_run d 69 11 [.ref x, v1, v2] st σ τ = am_run d 69 12 [.ref x, v1, v2] (.ref x :: st) σ τ := rr_aload_n dX9_may_11 rfl
theorem r69_12 (d : Nat) (ls st : List Value) (σ : am_St) (τ : Int64) (k : Nat) : am_run d 69 12 ls (.ref k :: st) σ τ = am_gf k 9 2 σ τ (fun v => am_run d 69 15 ls (v :: st) σ τ) := rr_getf dX9_may_12 (by decide +kernel)
theorem r69_15 (d : Nat) (st : List Value) (σ : am_St) (τ : Int64) (x : Int32) (v0 v1 : Value) : am_run d 69 15 [v0, v1, .int x] st σ τ = am_run d 69 16 [v0, v1, .int x] (.int x :: st) σ τ := rr_iload_n dX9_may_15 rfl
theorem r69_16 (d : Nat) (ls st : List Value) (σ : am_St) (τ : Int64) (k : Nat) (a0 : Int32) (hk : am_kc k = 1) (hc : am_cats st ≤ 8) : am_run (d + 1) 69 16 ls (.int a0 :: .ref k :: st) σ τ = (am_call d 6 [.ref k, .int a0] σ τ).bind (fun r => am_run (d + 1) 69 19 ls (r.1.toList ++ st) r.2.1 r.2.2) := rr_invv [.int a0] dX9_may_16 (by decide +kernel) (by decide) rfl (Nat.le_of_ble_eq_true rfl) hk hc
theorem r69_19 (d : Nat) (ls st : List Value) (σ : am_St) (τ : Int64) (x : Int32) : am_run d 69 19 ls (.int x :: st) σ τ = if x = 0 then am_run d 69 22 ls st σ τ else am_run d 69 25 ls st σ τ := (rr_if 25 dX9_may_19 (by decide)).trans am_seln
theorem r69_22 (d : Nat) (ls st : List Value) (σ : am_St) (τ : Int64) : am_run d 69 22 ls st σ τ = am_run d 69 24 ls (.int (-101) :: st) σ τ := rr_bipush (-101) dX9_may_22 (by decide)
theorem r69_24 (d : Nat) (ls : List Value) (σ : am_St) (τ : Int64) (x : Int32) : am_run d 69 24 ls [.int x] σ τ = some (some (.int x), σ, τ) := rr_iret dX9_may_24 rfl
theorem r69_25 (d : Nat) (st : List Value) (σ : am_St) (τ : Int64) (x : Nat) (v1 v2 : Value) : am_run d 69 25 [.ref x, v1, v2] st σ τ = am_run d 69 26 [.ref x, v1, v2] (.ref x :: st) σ τ := rr_aload_n dX9_may_25 rfl
theorem r69_26 (d : Nat) (ls st : List Value) (σ : am_St) (τ : Int64) (k : Nat) : am_run d 69 26 ls (.ref k :: st) σ τ = am_gf k 9 7 σ τ (fun v => am_run d 69 29 ls (v :: st) σ τ) := rr_getf dX9_may_26 (by decide +kernel)
theorem r69_29 (d : Nat) (st : List Value) (σ : am_St) (τ : Int64) (x : Int32) (v0 v2 : Value) : am_run d 69 29 [v0, .int x, v2] st σ τ = am_run d 69 30 [v0, .int x, v2] (.int x :: st) σ τ := rr_iload_n dX9_may_29 rfl
theorem r69_30 (d : Nat) (st : List Value) (σ : am_St) (τ : Int64) (x : Int32) (v0 v1 : Value) : am_run d 69 30 [v0, v1, .int x] st σ τ = am_run d 69 31 [v0, v1, .int x] (.int x :: st) σ τ := rr_iload_n dX9_may_30 rfl
theorem r69_31 (d : Nat) (ls st : List Value) (σ : am_St) (τ : Int64) (k : Nat) (a0 : Int32) (a1 : Int32) (hk : am_kc k = 0) (hc : am_cats st ≤ 8) : am_run (d + 1) 69 31 ls (.int a1 :: .int a0 :: .ref k :: st) σ τ = (am_call d 0 [.ref k, .int a0, .int a1] σ τ).bind (fun r => am_run (d + 1) 69 34 ls (r.1.toList ++ st) r.2.1 r.2.2) := rr_invv [.int a0, .int a1] dX9_may_31 (by decide +kernel) (by decide) rfl (Nat.le_of_ble_eq_true rfl) hk hc
theorem r69_34 (d : Nat) (ls st : List Value) (σ : am_St) (τ : Int64) (x : Int32) : am_run d 69 34 ls (.int x :: st) σ τ = if x = 0 then am_run d 69 41 ls st σ τ else am_run d 69 37 ls st σ τ := (rr_if 41 dX9_may_34 (by decide)).trans am_sel
theorem r69_37 (d : Nat) (ls st : List Value) (σ : am_St) (τ : Int64) : am_run d 69 37 ls st σ τ = am_run d 69 38 ls (.int 1 :: st) σ τ := rr_iconst 1 dX9_may_37 (by decide)
theorem r69_38 (d : Nat) (ls st : List Value) (σ : am_St) (τ : Int64) : am_run d 69 38 ls st σ τ = am_run d 69 42 ls st σ τ := rr_goto 42 dX9_may_38 (by decide)
theorem r69_41 (d : Nat) (ls st : List Value) (σ : am_St) (τ : Int64) : am_run d 69 41 ls st σ τ = am_run d 69 42 ls (.int 0 :: st) σ τ := rr_iconst 0 dX9_may_41 (by decide)
theorem r69_42 (d : Nat) (ls : List Value) (σ : am_St) (τ : Int64) (x : Int32) : am_run d 69 42 ls [.int x] σ τ = some (some (.int x), σ, τ) := rr_iret dX9_may_42 rfl
theorem dX9_couples_0 : decode (am_code 70) 0 = .ok (.iload_n 1, 1) := by decide +kernel
theorem dX9_couples_1 : decode (am_code 70) 1 = .ok (.bipush 10, 2) := by decide +kernel
theorem dX9_couples_3 : decode (am_code 70) 3 = .ok (.if_icmp .lt 13, 3) := by decide +kernel
theorem dX9_couples_6 : decode (am_code 70) 6 = .ok (.iload_n 1, 1) := by decide +kernel
theorem dX9_couples_7 : decode (am_code 70) 7 = .ok (.bipush 22, 2) := by decide +kernel
theorem dX9_couples_9 : decode (am_code 70) 9 = .ok (.if_icmp .ge 7, 3) := by decide +kernel
theorem dX9_couples_12 : decode (am_code 70) 12 = .ok (.iconst 1, 1) := by decide +kernel
theorem dX9_couples_13 : decode (am_code 70) 13 = .ok (.goto 4, 3) := by decide +kernel
theorem dX9_couples_16 : decode (am_code 70) 16 = .ok (.iconst 0, 1) := by decide +kernel
theorem dX9_couples_17 : decode (am_code 70) 17 = .ok (.istore_n 2, 1) := by decide +kernel
theorem dX9_couples_18 : decode (am_code 70) 18 = .ok (.iload_n 1, 1) := by decide +kernel
theorem dX9_couples_19 : decode (am_code 70) 19 = .ok (.ifCond .eq 10, 3) := by decide +kernel
theorem dX9_couples_22 : decode (am_code 70) 22 = .ok (.iload_n 2, 1) := by decide +kernel
theorem dX9_couples_23 : decode (am_code 70) 23 = .ok (.ifCond .ne 6, 3) := by decide +kernel
theorem dX9_couples_26 : decode (am_code 70) 26 = .ok (.bipush (-102), 2) := by decide +kernel
theorem dX9_couples_28 : decode (am_code 70) 28 = .ok (.ireturn, 1) := by decide +kernel
theorem dX9_couples_29 : decode (am_code 70) 29 = .ok (.aload_n 0, 1) := by decide +kernel
theorem dX9_couples_30 : decode (am_code 70) 30 = .ok (.getfield 67, 3) := by decide +kernel
theorem dX9_couples_33 : decode (am_code 70) 33 = .ok (.invokevirtual 228, 3) := by decide +kernel
theorem dX9_couples_36 : decode (am_code 70) 36 = .ok (.iload_n 1, 1) := by decide +kernel
theorem dX9_couples_37 : decode (am_code 70) 37 = .ok (.ifCond .ne 13, 3) := by decide +kernel
theorem dX9_couples_40 : decode (am_code 70) 40 = .ok (.aload_n 0, 1) := by decide +kernel
theorem dX9_couples_41 : decode (am_code 70) 41 = .ok (.getfield 67, 3) := by decide +kernel
theorem dX9_couples_44 : decode (am_code 70) 44 = .ok (.getfield 231, 3) := by decide +kernel
theorem dX9_couples_47 : decode (am_code 70) 47 = .ok (.goto 15, 3) := by decide +kernel
theorem dX9_couples_50 : decode (am_code 70) 50 = .ok (.aload_n 0, 1) := by decide +kernel
theorem dX9_couples_51 : decode (am_code 70) 51 = .ok (.getfield 67, 3) := by decide +kernel
theorem dX9_couples_54 : decode (am_code 70) 54 = .ok (.getfield 234, 3) := by decide +kernel
theorem dX9_couples_57 : decode (am_code 70) 57 = .ok (.iload_n 1, 1) := by decide +kernel
theorem dX9_couples_58 : decode (am_code 70) 58 = .ok (.bipush 10, 2) := by decide +kernel
theorem dX9_couples_60 : decode (am_code 70) 60 = .ok (.isub, 1) := by decide +kernel
theorem dX9_couples_61 : decode (am_code 70) 61 = .ok (.iaload, 1) := by decide +kernel
theorem dX9_couples_62 : decode (am_code 70) 62 = .ok (.ireturn, 1) := by decide +kernel
theorem r70_0 (d : Nat) (st : List Value) (σ : am_St) (τ : Int64) (x : Int32) (v0 v2 : Value) : am_run d 70 0 [v0, .int x, v2] st σ τ = am_run d 70 1 [v0, .int x, v2] (.int x :: st) σ τ := rr_iload_n dX9_couples_0 rfl
theorem r70_1 (d : Nat) (ls st : List Value) (σ : am_St) (τ : Int64) : am_run d 70 1 ls st σ τ = am_run d 70 3 ls (.int 10 :: st) σ τ := rr_bipush 10 dX9_couples_1 (by decide)
theorem r70_3 (d : Nat) (ls st : List Value) (σ : am_St) (τ : Int64) (x y : Int32) : am_run d 70 3 ls (.int y :: .int x :: st) σ τ = if x < y then am_run d 70 16 ls st σ τ else am_run d 70 6 ls st σ τ := (rr_icmp 16 dX9_couples_3 (by decide)).trans am_sel
theorem r70_6 (d : Nat) (st : List Value) (σ : am_St) (τ : Int64) (x : Int32) (v0 v2 : Value) : am_run d 70 6 [v0, .int x, v2] st σ τ = am_run d 70 7 [v0, .int x, v2] (.int x :: st) σ τ := rr_iload_n dX9_couples_6 rfl
theorem r70_7 (d : Nat) (ls st : List Value) (σ : am_St) (τ : Int64) : am_run d 70 7 ls st σ τ = am_run d 70 9 ls (.int 22 :: st) σ τ := rr_bipush 22 dX9_couples_7 (by decide)
theorem r70_9 (d : Nat) (ls st : List Value) (σ : am_St) (τ : Int64) (x y : Int32) : am_run d 70 9 ls (.int y :: .int x :: st) σ τ = if y ≤ x then am_run d 70 16 ls st σ τ else am_run d 70 12 ls st σ τ := (rr_icmp 16 dX9_couples_9 (by decide)).trans am_sel
theorem r70_12 (d : Nat) (ls st : List Value) (σ : am_St) (τ : Int64) : am_run d 70 12 ls st σ τ = am_run d 70 13 ls (.int 1 :: st) σ τ := rr_iconst 1 dX9_couples_12 (by decide)
theorem r70_13 (d : Nat) (ls st : List Value) (σ : am_St) (τ : Int64) : am_run d 70 13 ls st σ τ = am_run d 70 17 ls st σ τ := rr_goto 17 dX9_couples_13 (by decide)
theorem r70_16 (d : Nat) (ls st : List Value) (σ : am_St) (τ : Int64) : am_run d 70 16 ls st σ τ = am_run d 70 17 ls (.int 0 :: st) σ τ := rr_iconst 0 dX9_couples_16 (by decide)
theorem r70_17 (d : Nat) (st : List Value) (σ : am_St) (τ : Int64) (x : Int32) (v0 v1 v2 : Value) : am_run d 70 17 [v0, v1, v2] (.int x :: st) σ τ = am_run d 70 18 [v0, am_nl v1, .int x] st σ τ := rr_istore_n _ dX9_couples_17 (by decide) (by first | rfl | (by_cases h : v1.category = 2 <;> simp [am_set1, am_nl, h]))
theorem r70_18 (d : Nat) (st : List Value) (σ : am_St) (τ : Int64) (x : Int32) (v0 v2 : Value) : am_run d 70 18 [v0, .int x, v2] st σ τ = am_run d 70 19 [v0, .int x, v2] (.int x :: st) σ τ := rr_iload_n dX9_couples_18 rfl
theorem r70_19 (d : Nat) (ls st : List Value) (σ : am_St) (τ : Int64) (x : Int32) : am_run d 70 19 ls (.int x :: st) σ τ = if x = 0 then am_run d 70 29 ls st σ τ else am_run d 70 22 ls st σ τ := (rr_if 29 dX9_couples_19 (by decide)).trans am_sel
theorem r70_22 (d : Nat) (st : List Value) (σ : am_St) (τ : Int64) (x : Int32) (v0 v1 : Value) : am_run d 70 22 [v0, v1, .int x] st σ τ = am_run d 70 23 [v0, v1, .int x] (.int x :: st) σ τ := rr_iload_n dX9_couples_22 rfl
theorem r70_23 (d : Nat) (ls st : List Value) (σ : am_St) (τ : Int64) (x : Int32) : am_run d 70 23 ls (.int x :: st) σ τ = if x = 0 then am_run d 70 26 ls st σ τ else am_run d 70 29 ls st σ τ := (rr_if 29 dX9_couples_23 (by decide)).trans am_seln
theorem r70_26 (d : Nat) (ls st : List Value) (σ : am_St) (τ : Int64) : am_run d 70 26 ls st σ τ = am_run d 70 28 ls (.int (-102) :: st) σ τ := rr_bipush (-102) dX9_couples_26 (by decide)
theorem r70_28 (d : Nat) (ls : List Value) (σ : am_St) (τ : Int64) (x : Int32) : am_run d 70 28 ls [.int x] σ τ = some (some (.int x), σ, τ) := rr_iret dX9_couples_28 rfl
theorem r70_29 (d : Nat) (st : List Value) (σ : am_St) (τ : Int64) (x : Nat) (v1 v2 : Value) : am_run d 70 29 [.ref x, v1, v2] st σ τ = am_run d 70 30 [.ref x, v1, v2] (.ref x :: st) σ τ := rr_aload_n dX9_couples_29 rfl
theorem r70_30 (d : Nat) (ls st : List Value) (σ : am_St) (τ : Int64) (k : Nat) : am_run d 70 30 ls (.ref k :: st) σ τ = am_gf k 9 7 σ τ (fun v => am_run d 70 33 ls (v :: st) σ τ) := rr_getf dX9_couples_30 (by decide +kernel)
theorem r70_33 (d : Nat) (ls st : List Value) (σ : am_St) (τ : Int64) (k : Nat)  (hk : am_kc k = 0) (hc : am_cats st ≤ 8) : am_run (d + 1) 70 33 ls (.ref k :: st) σ τ = (am_call d 1 [.ref k] σ τ).bind (fun r => am_run (d + 1) 70 36 ls (r.1.toList ++ st) r.2.1 r.2.2) := rr_invv [] dX9_couples_33 (by decide +kernel) (by decide) rfl (Nat.le_of_ble_eq_true rfl) hk hc
theorem r70_36 (d : Nat) (st : List Value) (σ : am_St) (τ : Int64) (x : Int32) (v0 v2 : Value) : am_run d 70 36 [v0, .int x, v2] st σ τ = am_run d 70 37 [v0, .int x, v2] (.int x :: st) σ τ := rr_iload_n dX9_couples_36 rfl
theorem r70_37 (d : Nat) (ls st : List Value) (σ : am_St) (τ : Int64) (x : Int32) : am_run d 70 37 ls (.int x :: st) σ τ = if x = 0 then am_run d 70 40 ls st σ τ else am_run d 70 50 ls st σ τ := (rr_if 50 dX9_couples_37 (by decide)).trans am_seln
theorem r70_40 (d : Nat) (st : List Value) (σ : am_St) (τ : Int64) (x : Nat) (v1 v2 : Value) : am_run d 70 40 [.ref x, v1, v2] st σ τ = am_run d 70 41 [.ref x, v1, v2] (.ref x :: st) σ τ := rr_aload_n dX9_couples_40 rfl
theorem r70_41 (d : Nat) (ls st : List Value) (σ : am_St) (τ : Int64) (k : Nat) : am_run d 70 41 ls (.ref k :: st) σ τ = am_gf k 9 7 σ τ (fun v => am_run d 70 44 ls (v :: st) σ τ) := rr_getf dX9_couples_41 (by decide +kernel)
theorem r70_44 (d : Nat) (ls st : List Value) (σ : am_St) (τ : Int64) (k : Nat) : am_run d 70 44 ls (.ref k :: st) σ τ = am_gf k 0 0 σ τ (fun v => am_run d 70 47 ls (v :: st) σ τ) := rr_getf dX9_couples_44 (by decide +kernel)
theorem r70_47 (d : Nat) (ls st : List Value) (σ : am_St) (τ : Int64) : am_run d 70 47 ls st σ τ = am_run d 70 62 ls st σ τ := rr_goto 62 dX9_couples_47 (by decide)
theorem r70_50 (d : Nat) (st : List Value) (σ : am_St) (τ : Int64) (x : Nat) (v1 v2 : Value) : am_run d 70 50 [.ref x, v1, v2] st σ τ = am_run d 70 51 [.ref x, v1, v2] (.ref x :: st) σ τ := rr_aload_n dX9_couples_50 rfl
theorem r70_51 (d : Nat) (ls st : List Value) (σ : am_St) (τ : Int64) (k : Nat) : am_run d 70 51 ls (.ref k :: st) σ τ = am_gf k 9 7 σ τ (fun v => am_run d 70 54 ls (v :: st) σ τ) := rr_getf dX9_couples_51 (by decide +kernel)
theorem r70_54 (d : Nat) (ls st : List Value) (σ : am_St) (τ : Int64) (k : Nat) : am_run d 70 54 ls (.ref k :: st) σ τ = am_gf k 0 1 σ τ (fun v => am_run d 70 57 ls (v :: st) σ τ) := rr_getf dX9_couples_54 (by decide +kernel)
theorem r70_57 (d : Nat) (st : List Value) (σ : am_St) (τ : Int64) (x : Int32) (v0 v2 : Value) : am_run d 70 57 [v0, .int x, v2] st σ τ = am_run d 70 58 [v0, .int x, v2] (.int x :: st) σ τ := rr_iload_n dX9_couples_57 rfl
theorem r70_58 (d : Nat) (ls st : List Value) (σ : am_St) (τ : Int64) : am_run d 70 58 ls st σ τ = am_run d 70 60 ls (.int 10 :: st) σ τ := rr_bipush 10 dX9_couples_58 (by decide)
theorem r70_60 (d : Nat) (ls st : List Value) (σ : am_St) (τ : Int64) (x y : Int32) : am_run d 70 60 ls (.int y :: .int x :: st) σ τ = am_run d 70 61 ls (.int (x - y) :: st) σ τ := rr_isub dX9_couples_60
theorem r70_61 (d : Nat) (ls st : List Value) (σ : am_St) (τ : Int64) (i : Int32) (k : Nat) : am_run d 70 61 ls (.int i :: .ref k :: st) σ τ = am_ai false k i (fun j => am_run d 70 62 ls (.int (σ k j) :: st) σ τ) := rr_iald dX9_couples_61
theorem r70_62 (d : Nat) (ls : List Value) (σ : am_St) (τ : Int64) (x : Int32) : am_run d 70 62 ls [.int x] σ τ = some (some (.int x), σ, τ) := rr_iret dX9_couples_62 rfl
theorem dX9_lasts_0 : decode (am_code 71) 0 = .ok (.iload_n 1, 1) := by decide +kernel
theorem dX9_lasts_1 : decode (am_code 71) 1 = .ok (.invokestatic 131, 3) := by decide +kernel
theorem dX9_lasts_4 : decode (am_code 71) 4 = .ok (.ifCond .eq 11, 3) := by decide +kernel
theorem dX9_lasts_7 : decode (am_code 71) 7 = .ok (.aload_n 0, 1) := by decide +kernel
theorem dX9_lasts_8 : decode (am_code 71) 8 = .ok (.iload_n 1, 1) := by decide +kernel
theorem dX9_lasts_9 : decode (am_code 71) 9 = .ok (.invokevirtual 237, 3) := by decide +kernel
theorem dX9_lasts_12 : decode (am_code 71) 12 = .ok (.goto 5, 3) := by decide +kernel
theorem dX9_lasts_15 : decode (am_code 71) 15 = .ok (.bipush (-101), 2) := by decide +kernel
theorem dX9_lasts_17 : decode (am_code 71) 17 = .ok (.ireturn, 1) := by decide +kernel
theorem r71_0 (d : Nat) (st : List Value) (σ : am_St) (τ : Int64) (x : Int32) (v0 : Value) : am_run d 71 0 [v0, .int x] st σ τ = am_run d 71 1 [v0, .int x] (.int x :: st) σ τ := rr_iload_n dX9_lasts_0 rfl
theorem r71_1 (d : Nat) (ls st : List Value) (σ : am_St) (τ : Int64) (a0 : Int32) (hc : am_cats st ≤ 8) : am_run (d + 1) 71 1 ls (.int a0 :: st) σ τ = (am_call d 81 [.int a0] σ τ).bind (fun r => am_run (d + 1) 71 4 ls (r.1.toList ++ st) r.2.1 r.2.2) := rr_invs [.int a0] dX9_lasts_1 (by decide +kernel) (by decide +kernel) (by decide) rfl (Nat.le_of_ble_eq_true rfl) hc
theorem r71_4 (d : Nat) (ls st : List Value) (σ : am_St) (τ : Int64) (x : Int32) : am_run d 71 4 ls (.int x :: st) σ τ = if x = 0 then am_run d 71 15 ls st σ τ else am_run d 71 7 ls st σ τ := (rr_if 15 dX9_lasts_4 (by decide)).trans am_sel
theorem r71_7 (d : Nat) (st : List Value) (σ : am_St) (τ : Int64) (x : Nat) (v1 : Value) : am_run d 71 7 [.ref x, v1] st σ τ = am_run d 71 8 [.ref x, v1] (.ref x :: st) σ τ := rr_aload_n dX9_lasts_7 rfl
theorem r71_8 (d : Nat) (st : List Value) (σ : am_St) (τ : Int64) (x : Int32) (v0 : Value) : am_run d 71 8 [v0, .int x] st σ τ = am_run d 71 9 [v0, .int x] (.int x :: st) σ τ := rr_iload_n dX9_lasts_8 rfl
theorem r71_9 (d : Nat) (ls st : List Value) (σ : am_St) (τ : Int64) (k : Nat) (a0 : Int32) (hk : am_kc k = 9) (hc : am_cats st ≤ 8) : am_run (d + 1) 71 9 ls (.int a0 :: .ref k :: st) σ τ = (am_call d 78 [.ref k, .int a0] σ τ).bind (fun r => am_run (d + 1) 71 12 ls (r.1.toList ++ st) r.2.1 r.2.2) := rr_invv [.int a0] dX9_lasts_9 (by decide +kernel) (by decide) rfl (Nat.le_of_ble_eq_true rfl) hk hc
theorem r71_12 (d : Nat) (ls st : List Value) (σ : am_St) (τ : Int64) : am_run d 71 12 ls st σ τ = am_run d 71 17 ls st σ τ := rr_goto 17 dX9_lasts_12 (by decide)
theorem r71_15 (d : Nat) (ls st : List Value) (σ : am_St) (τ : Int64) : am_run d 71 15 ls st σ τ = am_run d 71 17 ls (.int (-101) :: st) σ τ := rr_bipush (-101) dX9_lasts_15 (by decide)
theorem r71_17 (d : Nat) (ls : List Value) (σ : am_St) (τ : Int64) (x : Int32) : am_run d 71 17 ls [.int x] σ τ = some (some (.int x), σ, τ) := rr_iret dX9_lasts_17 rfl
theorem dX9_image_0 : decode (am_code 72) 0 = .ok (.aload_n 0, 1) := by decide +kernel
theorem dX9_image_1 : decode (am_code 72) 1 = .ok (.getfield 74, 3) := by decide +kernel
theorem dX9_image_4 : decode (am_code 72) 4 = .ok (.aload_n 0, 1) := by decide +kernel
theorem dX9_image_5 : decode (am_code 72) 5 = .ok (.getfield 28, 3) := by decide +kernel
theorem dX9_image_8 : decode (am_code 72) 8 = .ok (.invokevirtual 240, 3) := by decide +kernel
theorem dX9_image_11 : decode (am_code 72) 11 = .ok (.aload_n 0, 1) := by decide +kernel
theorem dX9_image_12 : decode (am_code 72) 12 = .ok (.getfield 28, 3) := by decide +kernel
theorem dX9_image_15 : decode (am_code 72) 15 = .ok (.getfield 134, 3) := by decide +kernel
theorem dX9_image_18 : decode (am_code 72) 18 = .ok (.ireturn, 1) := by decide +kernel
theorem r72_0 (d : Nat) (st : List Value) (σ : am_St) (τ : Int64) (x : Nat) : am_run d 72 0 [.ref x] st σ τ = am_run d 72 1 [.ref x] (.ref x :: st) σ τ := rr_aload_n dX9_image_0 rfl
theorem r72_1 (d : Nat) (ls st : List Value) (σ : am_St) (τ : Int64) (k : Nat) : am_run d 72 1 ls (.ref k :: st) σ τ = am_gf k 9 8 σ τ (fun v => am_run d 72 4 ls (v :: st) σ τ) := rr_getf dX9_image_1 (by decide +kernel)
theorem r72_4 (d : Nat) (st : List Value) (σ : am_St) (τ : Int64) (x : Nat) : am_run d 72 4 [.ref x] st σ τ = am_run d 72 5 [.ref x] (.ref x :: st) σ τ := rr_aload_n dX9_image_4 rfl
theorem r72_5 (d : Nat) (ls st : List Value) (σ : am_St) (τ : Int64) (k : Nat) : am_run d 72 5 ls (.ref k :: st) σ τ = am_gf k 9 2 σ τ (fun v => am_run d 72 8 ls (v :: st) σ τ) := rr_getf dX9_image_5 (by decide +kernel)
theorem r72_8 (d : Nat) (ls st : List Value) (σ : am_St) (τ : Int64) (k : Nat) (a0 : Nat) (hk : am_kc k = 3) (hc : am_cats st ≤ 8) : am_run (d + 1) 72 8 ls (.ref a0 :: .ref k :: st) σ τ = (am_call d 24 [.ref k, .ref a0] σ τ).bind (fun r => am_run (d + 1) 72 11 ls (r.1.toList ++ st) r.2.1 r.2.2) := rr_invv [.ref a0] dX9_image_8 (by decide +kernel) (by decide) rfl (Nat.le_of_ble_eq_true rfl) hk hc
theorem r72_11 (d : Nat) (st : List Value) (σ : am_St) (τ : Int64) (x : Nat) : am_run d 72 11 [.ref x] st σ τ = am_run d 72 12 [.ref x] (.ref x :: st) σ τ := rr_aload_n dX9_image_11 rfl
theorem r72_12 (d : Nat) (ls st : List Value) (σ : am_St) (τ : Int64) (k : Nat) : am_run d 72 12 ls (.ref k :: st) σ τ = am_gf k 9 2 σ τ (fun v => am_run d 72 15 ls (v :: st) σ τ) := rr_getf dX9_image_12 (by decide +kernel)
theorem r72_15 (d : Nat) (ls st : List Value) (σ : am_St) (τ : Int64) (k : Nat) : am_run d 72 15 ls (.ref k :: st) σ τ = am_gf k 1 0 σ τ (fun v => am_run d 72 18 ls (v :: st) σ τ) := rr_getf dX9_image_15 (by decide +kernel)
theorem r72_18 (d : Nat) (ls : List Value) (σ : am_St) (τ : Int64) (x : Int32) : am_run d 72 18 ls [.int x] σ τ = some (some (.int x), σ, τ) := rr_iret dX9_image_18 rfl
theorem dX9_restore_0 : decode (am_code 73) 0 = .ok (.aload_n 0, 1) := by decide +kernel
theorem dX9_restore_1 : decode (am_code 73) 1 = .ok (.getfield 74, 3) := by decide +kernel
theorem dX9_restore_4 : decode (am_code 73) 4 = .ok (.getfield 243, 3) := by decide +kernel
theorem dX9_restore_7 : decode (am_code 73) 7 = .ok (.ifCond .ne 6, 3) := by decide +kernel
theorem dX9_restore_10 : decode (am_code 73) 10 = .ok (.bipush (-103), 2) := by decide +kernel
theorem dX9_restore_12 : decode (am_code 73) 12 = .ok (.ireturn, 1) := by decide +kernel
theorem dX9_restore_13 : decode (am_code 73) 13 = .ok (.aload_n 0, 1) := by decide +kernel
theorem dX9_restore_14 : decode (am_code 73) 14 = .ok (.getfield 74, 3) := by decide +kernel
theorem dX9_restore_17 : decode (am_code 73) 17 = .ok (.aload_n 0, 1) := by decide +kernel
theorem dX9_restore_18 : decode (am_code 73) 18 = .ok (.getfield 28, 3) := by decide +kernel
theorem dX9_restore_21 : decode (am_code 73) 21 = .ok (.invokevirtual 247, 3) := by decide +kernel
theorem dX9_restore_24 : decode (am_code 73) 24 = .ok (.aload_n 0, 1) := by decide +kernel
theorem dX9_restore_25 : decode (am_code 73) 25 = .ok (.invokevirtual 105, 3) := by decide +kernel
theorem dX9_restore_28 : decode (am_code 73) 28 = .ok (.aload_n 0, 1) := by decide +kernel
theorem dX9_restore_29 : decode (am_code 73) 29 = .ok (.getfield 28, 3) := by decide +kernel
theorem dX9_restore_32 : decode (am_code 73) 32 = .ok (.getfield 134, 3) := by decide +kernel
theorem dX9_restore_35 : decode (am_code 73) 35 = .ok (.ireturn, 1) := by decide +kernel
theorem r73_0 (d : Nat) (st : List Value) (σ : am_St) (τ : Int64) (x : Nat) : am_run d 73 0 [.ref x] st σ τ = am_run d 73 1 [.ref x] (.ref x :: st) σ τ := rr_aload_n dX9_restore_0 rfl
theorem r73_1 (d : Nat) (ls st : List Value) (σ : am_St) (τ : Int64) (k : Nat) : am_run d 73 1 ls (.ref k :: st) σ τ = am_gf k 9 8 σ τ (fun v => am_run d 73 4 ls (v :: st) σ τ) := rr_getf dX9_restore_1 (by decide +kernel)
theorem r73_4 (d : Nat) (ls st : List Value) (σ : am_St) (τ : Int64) (k : Nat) : am_run d 73 4 ls (.ref k :: st) σ τ = am_gf k 3 0 σ τ (fun v => am_run d 73 7 ls (v :: st) σ τ) := rr_getf dX9_restore_4 (by decide +kernel)
theorem r73_7 (d : Nat) (ls st : List Value) (σ : am_St) (τ : Int64) (x : Int32) : am_run d 73 7 ls (.int x :: st) σ τ = if x = 0 then am_run d 73 10 ls st σ τ else am_run d 73 13 ls st σ τ := (rr_if 13 dX9_restore_7 (by decide)).trans am_seln
theorem r73_10 (d : Nat) (ls st : List Value) (σ : am_St) (τ : Int64) : am_run d 73 10 ls st σ τ = am_run d 73 12 ls (.int (-103) :: st) σ τ := rr_bipush (-103) dX9_restore_10 (by decide)
theorem r73_12 (d : Nat) (ls : List Value) (σ : am_St) (τ : Int64) (x : Int32) : am_run d 73 12 ls [.int x] σ τ = some (some (.int x), σ, τ) := rr_iret dX9_restore_12 rfl
theorem r73_13 (d : Nat) (st : List Value) (σ : am_St) (τ : Int64) (x : Nat) : am_run d 73 13 [.ref x] st σ τ = am_run d 73 14 [.ref x] (.ref x :: st) σ τ := rr_aload_n dX9_restore_13 rfl
theorem r73_14 (d : Nat) (ls st : List Value) (σ : am_St) (τ : Int64) (k : Nat) : am_run d 73 14 ls (.ref k :: st) σ τ = am_gf k 9 8 σ τ (fun v => am_run d 73 17 ls (v :: st) σ τ) := rr_getf dX9_restore_14 (by decide +kernel)
theorem r73_17 (d : Nat) (st : List Value) (σ : am_St) (τ : Int64) (x : Nat) : am_run d 73 17 [.ref x] st σ τ = am_run d 73 18 [.ref x] (.ref x :: st) σ τ := rr_aload_n dX9_restore_17 rfl
theorem r73_18 (d : Nat) (ls st : List Value) (σ : am_St) (τ : Int64) (k : Nat) : am_run d 73 18 ls (.ref k :: st) σ τ = am_gf k 9 2 σ τ (fun v => am_run d 73 21 ls (v :: st) σ τ) := rr_getf dX9_restore_18 (by decide +kernel)
theorem r73_21 (d : Nat) (ls st : List Value) (σ : am_St) (τ : Int64) (k : Nat) (a0 : Nat) (hk : am_kc k = 3) (hc : am_cats st ≤ 8) : am_run (d + 1) 73 21 ls (.ref a0 :: .ref k :: st) σ τ = (am_call d 25 [.ref k, .ref a0] σ τ).bind (fun r => am_run (d + 1) 73 24 ls (r.1.toList ++ st) r.2.1 r.2.2) := rr_invv [.ref a0] dX9_restore_21 (by decide +kernel) (by decide) rfl (Nat.le_of_ble_eq_true rfl) hk hc
theorem r73_24 (d : Nat) (st : List Value) (σ : am_St) (τ : Int64) (x : Nat) : am_run d 73 24 [.ref x] st σ τ = am_run d 73 25 [.ref x] (.ref x :: st) σ τ := rr_aload_n dX9_restore_24 rfl
theorem r73_25 (d : Nat) (ls st : List Value) (σ : am_St) (τ : Int64) (k : Nat)  (hk : am_kc k = 9) (hc : am_cats st ≤ 8) : am_run (d + 1) 73 25 ls (.ref k :: st) σ τ = (am_call d 77 [.ref k] σ τ).bind (fun r => am_run (d + 1) 73 28 ls (r.1.toList ++ st) r.2.1 r.2.2) := rr_invv [] dX9_restore_25 (by decide +kernel) (by decide) rfl (Nat.le_of_ble_eq_true rfl) hk hc
theorem r73_28 (d : Nat) (st : List Value) (σ : am_St) (τ : Int64) (x : Nat) : am_run d 73 28 [.ref x] st σ τ = am_run d 73 29 [.ref x] (.ref x :: st) σ τ := rr_aload_n dX9_restore_28 rfl
theorem r73_29 (d : Nat) (ls st : List Value) (σ : am_St) (τ : Int64) (k : Nat) : am_run d 73 29 ls (.ref k :: st) σ τ = am_gf k 9 2 σ τ (fun v => am_run d 73 32 ls (v :: st) σ τ) := rr_getf dX9_restore_29 (by decide +kernel)
theorem r73_32 (d : Nat) (ls st : List Value) (σ : am_St) (τ : Int64) (k : Nat) : am_run d 73 32 ls (.ref k :: st) σ τ = am_gf k 1 0 σ τ (fun v => am_run d 73 35 ls (v :: st) σ τ) := rr_getf dX9_restore_32 (by decide +kernel)
theorem r73_35 (d : Nat) (ls : List Value) (σ : am_St) (τ : Int64) (x : Int32) : am_run d 73 35 ls [.int x] σ τ = some (some (.int x), σ, τ) := rr_iret dX9_restore_35 rfl
theorem dX9_count_0 : decode (am_code 74) 0 = .ok (.iload_n 1, 1) := by decide +kernel
theorem dX9_count_1 : decode (am_code 74) 1 = .ok (.tableswitch 93 0 6 #[43, 51, 59, 67, 75, 83, 88], 43) := by decide +kernel
theorem dX9_count_44 : decode (am_code 74) 44 = .ok (.aload_n 0, 1) := by decide +kernel
theorem dX9_count_45 : decode (am_code 74) 45 = .ok (.getfield 28, 3) := by decide +kernel
theorem dX9_count_48 : decode (am_code 74) 48 = .ok (.getfield 134, 3) := by decide +kernel
theorem dX9_count_51 : decode (am_code 74) 51 = .ok (.ireturn, 1) := by decide +kernel
theorem dX9_count_52 : decode (am_code 74) 52 = .ok (.aload_n 0, 1) := by decide +kernel
theorem dX9_count_53 : decode (am_code 74) 53 = .ok (.getfield 28, 3) := by decide +kernel
theorem dX9_count_56 : decode (am_code 74) 56 = .ok (.invokevirtual 137, 3) := by decide +kernel
theorem dX9_count_59 : decode (am_code 74) 59 = .ok (.ireturn, 1) := by decide +kernel
theorem dX9_count_60 : decode (am_code 74) 60 = .ok (.aload_n 0, 1) := by decide +kernel
theorem dX9_count_61 : decode (am_code 74) 61 = .ok (.getfield 28, 3) := by decide +kernel
theorem dX9_count_64 : decode (am_code 74) 64 = .ok (.invokevirtual 181, 3) := by decide +kernel
theorem dX9_count_67 : decode (am_code 74) 67 = .ok (.ireturn, 1) := by decide +kernel
theorem dX9_count_68 : decode (am_code 74) 68 = .ok (.aload_n 0, 1) := by decide +kernel
theorem dX9_count_69 : decode (am_code 74) 69 = .ok (.getfield 28, 3) := by decide +kernel
theorem dX9_count_72 : decode (am_code 74) 72 = .ok (.invokevirtual 250, 3) := by decide +kernel
theorem dX9_count_75 : decode (am_code 74) 75 = .ok (.ireturn, 1) := by decide +kernel
theorem dX9_count_76 : decode (am_code 74) 76 = .ok (.aload_n 0, 1) := by decide +kernel
theorem dX9_count_77 : decode (am_code 74) 77 = .ok (.getfield 10, 3) := by decide +kernel
theorem dX9_count_80 : decode (am_code 74) 80 = .ok (.getfield 82, 3) := by decide +kernel
theorem dX9_count_83 : decode (am_code 74) 83 = .ok (.ireturn, 1) := by decide +kernel
theorem dX9_count_84 : decode (am_code 74) 84 = .ok (.aload_n 0, 1) := by decide +kernel
theorem dX9_count_85 : decode (am_code 74) 85 = .ok (.getfield 102, 3) := by decide +kernel
theorem dX9_count_88 : decode (am_code 74) 88 = .ok (.ireturn, 1) := by decide +kernel
theorem dX9_count_89 : decode (am_code 74) 89 = .ok (.aload_n 0, 1) := by decide +kernel
theorem dX9_count_90 : decode (am_code 74) 90 = .ok (.getfield 193, 3) := by decide +kernel
theorem dX9_count_93 : decode (am_code 74) 93 = .ok (.ireturn, 1) := by decide +kernel
theorem dX9_count_94 : decode (am_code 74) 94 = .ok (.bipush (-102), 2) := by decide +kernel
theorem dX9_count_96 : decode (am_code 74) 96 = .ok (.ireturn, 1) := by decide +kernel
theorem r74_0 (d : Nat) (st : List Value) (σ : am_St) (τ : Int64) (x : Int32) (v0 : Value) : am_run d 74 0 [v0, .int x] st σ τ = am_run d 74 1 [v0, .int x] (.int x :: st) σ τ := rr_iload_n dX9_count_0 rfl
theorem r74_1 (d : Nat) (ls st : List Value) (σ : am_St) (τ : Int64) (x : Int32) : am_run d 74 1 ls (.int x :: st) σ τ = am_run d 74 (am_sw x 0 [44, 52, 60, 68, 76, 84, 89] 94) ls st σ τ := rr_tsw [44, 52, 60, 68, 76, 84, 89] 94 dX9_count_1 (by decide) (by decide) (by decide)
theorem r74_44 (d : Nat) (st : List Value) (σ : am_St) (τ : Int64) (x : Nat) (v1 : Value) : am_run d 74 44 [.ref x, v1] st σ τ = am_run d 74 45 [.ref x, v1] (.ref x :: st) σ τ := rr_aload_n dX9_count_44 rfl
theorem r74_45 (d : Nat) (ls st : List Value) (σ : am_St) (τ : Int64) (k : Nat) : am_run d 74 45 ls (.ref k :: st) σ τ = am_gf k 9 2 σ τ (fun v => am_run d 74 48 ls (v :: st) σ τ) := rr_getf dX9_count_45 (by decide +kernel)
theorem r74_48 (d : Nat) (ls st : List Value) (σ : am_St) (τ : Int64) (k : Nat) : am_run d 74 48 ls (.ref k :: st) σ τ = am_gf k 1 0 σ τ (fun v => am_run d 74 51 ls (v :: st) σ τ) := rr_getf dX9_count_48 (by decide +kernel)
theorem r74_51 (d : Nat) (ls : List Value) (σ : am_St) (τ : Int64) (x : Int32) : am_run d 74 51 ls [.int x] σ τ = some (some (.int x), σ, τ) := rr_iret dX9_count_51 rfl
theorem r74_52 (d : Nat) (st : List Value) (σ : am_St) (τ : Int64) (x : Nat) (v1 : Value) : am_run d 74 52 [.ref x, v1] st σ τ = am_run d 74 53 [.ref x, v1] (.ref x :: st) σ τ := rr_aload_n dX9_count_52 rfl
theorem r74_53 (d : Nat) (ls st : List Value) (σ : am_St) (τ : Int64) (k : Nat) : am_run d 74 53 ls (.ref k :: st) σ τ = am_gf k 9 2 σ τ (fun v => am_run d 74 56 ls (v :: st) σ τ) := rr_getf dX9_count_53 (by decide +kernel)
theorem r74_56 (d : Nat) (ls st : List Value) (σ : am_St) (τ : Int64) (k : Nat)  (hk : am_kc k = 1) (hc : am_cats st ≤ 8) : am_run (d + 1) 74 56 ls (.ref k :: st) σ τ = (am_call d 11 [.ref k] σ τ).bind (fun r => am_run (d + 1) 74 59 ls (r.1.toList ++ st) r.2.1 r.2.2) := rr_invv [] dX9_count_56 (by decide +kernel) (by decide) rfl (Nat.le_of_ble_eq_true rfl) hk hc
theorem r74_59 (d : Nat) (ls : List Value) (σ : am_St) (τ : Int64) (x : Int32) : am_run d 74 59 ls [.int x] σ τ = some (some (.int x), σ, τ) := rr_iret dX9_count_59 rfl
theorem r74_60 (d : Nat) (st : List Value) (σ : am_St) (τ : Int64) (x : Nat) (v1 : Value) : am_run d 74 60 [.ref x, v1] st σ τ = am_run d 74 61 [.ref x, v1] (.ref x :: st) σ τ := rr_aload_n dX9_count_60 rfl
theorem r74_61 (d : Nat) (ls st : List Value) (σ : am_St) (τ : Int64) (k : Nat) : am_run d 74 61 ls (.ref k :: st) σ τ = am_gf k 9 2 σ τ (fun v => am_run d 74 64 ls (v :: st) σ τ) := rr_getf dX9_count_61 (by decide +kernel)
theorem r74_64 (d : Nat) (ls st : List Value) (σ : am_St) (τ : Int64) (k : Nat)  (hk : am_kc k = 1) (hc : am_cats st ≤ 8) : am_run (d + 1) 74 64 ls (.ref k :: st) σ τ = (am_call d 12 [.ref k] σ τ).bind (fun r => am_run (d + 1) 74 67 ls (r.1.toList ++ st) r.2.1 r.2.2) := rr_invv [] dX9_count_64 (by decide +kernel) (by decide) rfl (Nat.le_of_ble_eq_true rfl) hk hc
theorem r74_67 (d : Nat) (ls : List Value) (σ : am_St) (τ : Int64) (x : Int32) : am_run d 74 67 ls [.int x] σ τ = some (some (.int x), σ, τ) := rr_iret dX9_count_67 rfl
theorem r74_68 (d : Nat) (st : List Value) (σ : am_St) (τ : Int64) (x : Nat) (v1 : Value) : am_run d 74 68 [.ref x, v1] st σ τ = am_run d 74 69 [.ref x, v1] (.ref x :: st) σ τ := rr_aload_n dX9_count_68 rfl
theorem r74_69 (d : Nat) (ls st : List Value) (σ : am_St) (τ : Int64) (k : Nat) : am_run d 74 69 ls (.ref k :: st) σ τ = am_gf k 9 2 σ τ (fun v => am_run d 74 72 ls (v :: st) σ τ) := rr_getf dX9_count_69 (by decide +kernel)
theorem r74_72 (d : Nat) (ls st : List Value) (σ : am_St) (τ : Int64) (k : Nat)  (hk : am_kc k = 1) (hc : am_cats st ≤ 8) : am_run (d + 1) 74 72 ls (.ref k :: st) σ τ = (am_call d 13 [.ref k] σ τ).bind (fun r => am_run (d + 1) 74 75 ls (r.1.toList ++ st) r.2.1 r.2.2) := rr_invv [] dX9_count_72 (by decide +kernel) (by decide) rfl (Nat.le_of_ble_eq_true rfl) hk hc
theorem r74_75 (d : Nat) (ls : List Value) (σ : am_St) (τ : Int64) (x : Int32) : am_run d 74 75 ls [.int x] σ τ = some (some (.int x), σ, τ) := rr_iret dX9_count_75 rfl
theorem r74_76 (d : Nat) (st : List Value) (σ : am_St) (τ : Int64) (x : Nat) (v1 : Value) : am_run d 74 76 [.ref x, v1] st σ τ = am_run d 74 77 [.ref x, v1] (.ref x :: st) σ τ := rr_aload_n dX9_count_76 rfl
theorem r74_77 (d : Nat) (ls st : List Value) (σ : am_St) (τ : Int64) (k : Nat) : am_run d 74 77 ls (.ref k :: st) σ τ = am_gf k 9 0 σ τ (fun v => am_run d 74 80 ls (v :: st) σ τ) := rr_getf dX9_count_77 (by decide +kernel)
theorem r74_80 (d : Nat) (ls st : List Value) (σ : am_St) (τ : Int64) (k : Nat) : am_run d 74 80 ls (.ref k :: st) σ τ = am_gf k 8 1 σ τ (fun v => am_run d 74 83 ls (v :: st) σ τ) := rr_getf dX9_count_80 (by decide +kernel)
theorem r74_83 (d : Nat) (ls : List Value) (σ : am_St) (τ : Int64) (x : Int32) : am_run d 74 83 ls [.int x] σ τ = some (some (.int x), σ, τ) := rr_iret dX9_count_83 rfl
theorem r74_84 (d : Nat) (st : List Value) (σ : am_St) (τ : Int64) (x : Nat) (v1 : Value) : am_run d 74 84 [.ref x, v1] st σ τ = am_run d 74 85 [.ref x, v1] (.ref x :: st) σ τ := rr_aload_n dX9_count_84 rfl
theorem r74_85 (d : Nat) (ls st : List Value) (σ : am_St) (τ : Int64) (k : Nat) : am_run d 74 85 ls (.ref k :: st) σ τ = am_gf k 9 9 σ τ (fun v => am_run d 74 88 ls (v :: st) σ τ) := rr_getf dX9_count_85 (by decide +kernel)
theorem r74_88 (d : Nat) (ls : List Value) (σ : am_St) (τ : Int64) (x : Int32) : am_run d 74 88 ls [.int x] σ τ = some (some (.int x), σ, τ) := rr_iret dX9_count_88 rfl
theorem r74_89 (d : Nat) (st : List Value) (σ : am_St) (τ : Int64) (x : Nat) (v1 : Value) : am_run d 74 89 [.ref x, v1] st σ τ = am_run d 74 90 [.ref x, v1] (.ref x :: st) σ τ := rr_aload_n dX9_count_89 rfl
theorem r74_90 (d : Nat) (ls st : List Value) (σ : am_St) (τ : Int64) (k : Nat) : am_run d 74 90 ls (.ref k :: st) σ τ = am_gf k 9 10 σ τ (fun v => am_run d 74 93 ls (v :: st) σ τ) := rr_getf dX9_count_90 (by decide +kernel)
theorem r74_93 (d : Nat) (ls : List Value) (σ : am_St) (τ : Int64) (x : Int32) : am_run d 74 93 ls [.int x] σ τ = some (some (.int x), σ, τ) := rr_iret dX9_count_93 rfl
theorem r74_94 (d : Nat) (ls st : List Value) (σ : am_St) (τ : Int64) : am_run d 74 94 ls st σ τ = am_run d 74 96 ls (.int (-102) :: st) σ τ := rr_bipush (-102) dX9_count_94 (by decide)
theorem r74_96 (d : Nat) (ls : List Value) (σ : am_St) (τ : Int64) (x : Int32) : am_run d 74 96 ls [.int x] σ τ = some (some (.int x), σ, τ) := rr_iret dX9_count_96 rfl
theorem dX9_digest_0 : decode (am_code 75) 0 = .ok (.aload_n 0, 1) := by decide +kernel
theorem dX9_digest_1 : decode (am_code 75) 1 = .ok (.getfield 53, 3) := by decide +kernel
theorem dX9_digest_4 : decode (am_code 75) 4 = .ok (.aload_n 0, 1) := by decide +kernel
theorem dX9_digest_5 : decode (am_code 75) 5 = .ok (.getfield 21, 3) := by decide +kernel
theorem dX9_digest_8 : decode (am_code 75) 8 = .ok (.invokevirtual 206, 3) := by decide +kernel
theorem dX9_digest_11 : decode (am_code 75) 11 = .ok (.aload_n 0, 1) := by decide +kernel
theorem dX9_digest_12 : decode (am_code 75) 12 = .ok (.getfield 60, 3) := by decide +kernel
theorem dX9_digest_15 : decode (am_code 75) 15 = .ok (.aload_n 0, 1) := by decide +kernel
theorem dX9_digest_16 : decode (am_code 75) 16 = .ok (.getfield 21, 3) := by decide +kernel
theorem dX9_digest_19 : decode (am_code 75) 19 = .ok (.getfield 117, 3) := by decide +kernel
theorem dX9_digest_22 : decode (am_code 75) 22 = .ok (.invokevirtual 213, 3) := by decide +kernel
theorem dX9_digest_25 : decode (am_code 75) 25 = .ok (.aload_n 0, 1) := by decide +kernel
theorem dX9_digest_26 : decode (am_code 75) 26 = .ok (.getfield 67, 3) := by decide +kernel
theorem dX9_digest_29 : decode (am_code 75) 29 = .ok (.invokevirtual 228, 3) := by decide +kernel
theorem dX9_digest_32 : decode (am_code 75) 32 = .ok (.ldc2_w 253, 3) := by decide +kernel
theorem dX9_digest_35 : decode (am_code 75) 35 = .ok (.lstore_n 1, 1) := by decide +kernel
theorem dX9_digest_36 : decode (am_code 75) 36 = .ok (.iconst 0, 1) := by decide +kernel
theorem dX9_digest_37 : decode (am_code 75) 37 = .ok (.istore_n 3, 1) := by decide +kernel
theorem dX9_digest_38 : decode (am_code 75) 38 = .ok (.iload_n 3, 1) := by decide +kernel
theorem dX9_digest_39 : decode (am_code 75) 39 = .ok (.iconst 4, 1) := by decide +kernel
theorem dX9_digest_40 : decode (am_code 75) 40 = .ok (.if_icmp .ge 22, 3) := by decide +kernel
theorem dX9_digest_43 : decode (am_code 75) 43 = .ok (.ldc2_w 255, 3) := by decide +kernel
theorem dX9_digest_46 : decode (am_code 75) 46 = .ok (.lload_n 1, 1) := by decide +kernel
theorem dX9_digest_47 : decode (am_code 75) 47 = .ok (.lmul, 1) := by decide +kernel
theorem dX9_digest_48 : decode (am_code 75) 48 = .ok (.aload_n 0, 1) := by decide +kernel
theorem dX9_digest_49 : decode (am_code 75) 49 = .ok (.iload_n 3, 1) := by decide +kernel
theorem dX9_digest_50 : decode (am_code 75) 50 = .ok (.invokevirtual 257, 3) := by decide +kernel
theorem dX9_digest_53 : decode (am_code 75) 53 = .ok (.i2l, 1) := by decide +kernel
theorem dX9_digest_54 : decode (am_code 75) 54 = .ok (.ladd, 1) := by decide +kernel
theorem dX9_digest_55 : decode (am_code 75) 55 = .ok (.lstore_n 1, 1) := by decide +kernel
theorem dX9_digest_56 : decode (am_code 75) 56 = .ok (.iinc 3 1, 3) := by decide +kernel
theorem dX9_digest_59 : decode (am_code 75) 59 = .ok (.goto (-21), 3) := by decide +kernel
theorem dX9_digest_62 : decode (am_code 75) 62 = .ok (.iconst 0, 1) := by decide +kernel
theorem dX9_digest_63 : decode (am_code 75) 63 = .ok (.istore_n 3, 1) := by decide +kernel
theorem dX9_digest_64 : decode (am_code 75) 64 = .ok (.iload_n 3, 1) := by decide +kernel
theorem dX9_digest_65 : decode (am_code 75) 65 = .ok (.aload_n 0, 1) := by decide +kernel
theorem dX9_digest_66 : decode (am_code 75) 66 = .ok (.getfield 28, 3) := by decide +kernel
theorem dX9_digest_69 : decode (am_code 75) 69 = .ok (.getfield 134, 3) := by decide +kernel
theorem dX9_digest_72 : decode (am_code 75) 72 = .ok (.if_icmp .ge 16, 3) := by decide +kernel
theorem dX9_digest_75 : decode (am_code 75) 75 = .ok (.aload_n 0, 1) := by decide +kernel
theorem dX9_digest_76 : decode (am_code 75) 76 = .ok (.lload_n 1, 1) := by decide +kernel
theorem dX9_digest_77 : decode (am_code 75) 77 = .ok (.iload_n 3, 1) := by decide +kernel
theorem dX9_digest_78 : decode (am_code 75) 78 = .ok (.invokevirtual 260, 3) := by decide +kernel
theorem dX9_digest_81 : decode (am_code 75) 81 = .ok (.lstore_n 1, 1) := by decide +kernel
theorem dX9_digest_82 : decode (am_code 75) 82 = .ok (.iinc 3 1, 3) := by decide +kernel
theorem dX9_digest_85 : decode (am_code 75) 85 = .ok (.goto (-21), 3) := by decide +kernel
theorem dX9_digest_88 : decode (am_code 75) 88 = .ok (.ldc2_w 255, 3) := by decide +kernel
theorem dX9_digest_91 : decode (am_code 75) 91 = .ok (.lload_n 1, 1) := by decide +kernel
theorem dX9_digest_92 : decode (am_code 75) 92 = .ok (.lmul, 1) := by decide +kernel
theorem dX9_digest_93 : decode (am_code 75) 93 = .ok (.aload_n 0, 1) := by decide +kernel
theorem dX9_digest_94 : decode (am_code 75) 94 = .ok (.getfield 37, 3) := by decide +kernel
theorem dX9_digest_97 : decode (am_code 75) 97 = .ok (.invokevirtual 184, 3) := by decide +kernel
theorem dX9_digest_100 : decode (am_code 75) 100 = .ok (.i2l, 1) := by decide +kernel
theorem dX9_digest_101 : decode (am_code 75) 101 = .ok (.ladd, 1) := by decide +kernel
theorem dX9_digest_102 : decode (am_code 75) 102 = .ok (.lstore_n 1, 1) := by decide +kernel
theorem dX9_digest_103 : decode (am_code 75) 103 = .ok (.ldc2_w 255, 3) := by decide +kernel
theorem dX9_digest_106 : decode (am_code 75) 106 = .ok (.lload_n 1, 1) := by decide +kernel
theorem dX9_digest_107 : decode (am_code 75) 107 = .ok (.lmul, 1) := by decide +kernel
theorem dX9_digest_108 : decode (am_code 75) 108 = .ok (.aload_n 0, 1) := by decide +kernel
theorem dX9_digest_109 : decode (am_code 75) 109 = .ok (.getfield 37, 3) := by decide +kernel
theorem dX9_digest_112 : decode (am_code 75) 112 = .ok (.invokevirtual 187, 3) := by decide +kernel
theorem dX9_digest_115 : decode (am_code 75) 115 = .ok (.i2l, 1) := by decide +kernel
theorem dX9_digest_116 : decode (am_code 75) 116 = .ok (.ladd, 1) := by decide +kernel
theorem dX9_digest_117 : decode (am_code 75) 117 = .ok (.lstore_n 1, 1) := by decide +kernel
theorem dX9_digest_118 : decode (am_code 75) 118 = .ok (.ldc2_w 255, 3) := by decide +kernel
theorem dX9_digest_121 : decode (am_code 75) 121 = .ok (.lload_n 1, 1) := by decide +kernel
theorem dX9_digest_122 : decode (am_code 75) 122 = .ok (.lmul, 1) := by decide +kernel
theorem dX9_digest_123 : decode (am_code 75) 123 = .ok (.aload_n 0, 1) := by decide +kernel
theorem dX9_digest_124 : decode (am_code 75) 124 = .ok (.getfield 53, 3) := by decide +kernel
theorem dX9_digest_127 : decode (am_code 75) 127 = .ok (.getfield 207, 3) := by decide +kernel
theorem dX9_digest_130 : decode (am_code 75) 130 = .ok (.i2l, 1) := by decide +kernel
theorem dX9_digest_131 : decode (am_code 75) 131 = .ok (.ladd, 1) := by decide +kernel
theorem dX9_digest_132 : decode (am_code 75) 132 = .ok (.lstore_n 1, 1) := by decide +kernel
theorem dX9_digest_133 : decode (am_code 75) 133 = .ok (.iconst 0, 1) := by decide +kernel
theorem dX9_digest_134 : decode (am_code 75) 134 = .ok (.istore_n 3, 1) := by decide +kernel
theorem dX9_digest_135 : decode (am_code 75) 135 = .ok (.iload_n 3, 1) := by decide +kernel
theorem dX9_digest_136 : decode (am_code 75) 136 = .ok (.iconst 4, 1) := by decide +kernel
theorem dX9_digest_137 : decode (am_code 75) 137 = .ok (.if_icmp .ge 25, 3) := by decide +kernel
theorem dX9_digest_140 : decode (am_code 75) 140 = .ok (.ldc2_w 255, 3) := by decide +kernel
theorem dX9_digest_143 : decode (am_code 75) 143 = .ok (.lload_n 1, 1) := by decide +kernel
theorem dX9_digest_144 : decode (am_code 75) 144 = .ok (.lmul, 1) := by decide +kernel
theorem dX9_digest_145 : decode (am_code 75) 145 = .ok (.aload_n 0, 1) := by decide +kernel
theorem dX9_digest_146 : decode (am_code 75) 146 = .ok (.getfield 60, 3) := by decide +kernel
theorem dX9_digest_149 : decode (am_code 75) 149 = .ok (.iload_n 3, 1) := by decide +kernel
theorem dX9_digest_150 : decode (am_code 75) 150 = .ok (.invokevirtual 215, 3) := by decide +kernel
theorem dX9_digest_153 : decode (am_code 75) 153 = .ok (.i2l, 1) := by decide +kernel
theorem dX9_digest_154 : decode (am_code 75) 154 = .ok (.ladd, 1) := by decide +kernel
theorem dX9_digest_155 : decode (am_code 75) 155 = .ok (.lstore_n 1, 1) := by decide +kernel
theorem dX9_digest_156 : decode (am_code 75) 156 = .ok (.iinc 3 1, 3) := by decide +kernel
theorem dX9_digest_159 : decode (am_code 75) 159 = .ok (.goto (-24), 3) := by decide +kernel
theorem dX9_digest_162 : decode (am_code 75) 162 = .ok (.iconst 0, 1) := by decide +kernel
theorem dX9_digest_163 : decode (am_code 75) 163 = .ok (.istore_n 3, 1) := by decide +kernel
theorem dX9_digest_164 : decode (am_code 75) 164 = .ok (.iload_n 3, 1) := by decide +kernel
theorem dX9_digest_165 : decode (am_code 75) 165 = .ok (.bipush 6, 2) := by decide +kernel
theorem dX9_digest_167 : decode (am_code 75) 167 = .ok (.if_icmp .ge 22, 3) := by decide +kernel
theorem dX9_digest_170 : decode (am_code 75) 170 = .ok (.ldc2_w 255, 3) := by decide +kernel
theorem dX9_digest_173 : decode (am_code 75) 173 = .ok (.lload_n 1, 1) := by decide +kernel
theorem dX9_digest_174 : decode (am_code 75) 174 = .ok (.lmul, 1) := by decide +kernel
theorem dX9_digest_175 : decode (am_code 75) 175 = .ok (.aload_n 0, 1) := by decide +kernel
theorem dX9_digest_176 : decode (am_code 75) 176 = .ok (.iload_n 3, 1) := by decide +kernel
theorem dX9_digest_177 : decode (am_code 75) 177 = .ok (.invokevirtual 237, 3) := by decide +kernel
theorem dX9_digest_180 : decode (am_code 75) 180 = .ok (.i2l, 1) := by decide +kernel
theorem dX9_digest_181 : decode (am_code 75) 181 = .ok (.ladd, 1) := by decide +kernel
theorem dX9_digest_182 : decode (am_code 75) 182 = .ok (.lstore_n 1, 1) := by decide +kernel
theorem dX9_digest_183 : decode (am_code 75) 183 = .ok (.iinc 3 1, 3) := by decide +kernel
theorem dX9_digest_186 : decode (am_code 75) 186 = .ok (.goto (-22), 3) := by decide +kernel
theorem dX9_digest_189 : decode (am_code 75) 189 = .ok (.iconst 0, 1) := by decide +kernel
theorem dX9_digest_190 : decode (am_code 75) 190 = .ok (.istore_n 3, 1) := by decide +kernel
theorem dX9_digest_191 : decode (am_code 75) 191 = .ok (.iload_n 3, 1) := by decide +kernel
theorem dX9_digest_192 : decode (am_code 75) 192 = .ok (.aload_n 0, 1) := by decide +kernel
theorem dX9_digest_193 : decode (am_code 75) 193 = .ok (.getfield 10, 3) := by decide +kernel
theorem dX9_digest_196 : decode (am_code 75) 196 = .ok (.getfield 82, 3) := by decide +kernel
theorem dX9_digest_199 : decode (am_code 75) 199 = .ok (.if_icmp .ge 26, 3) := by decide +kernel
theorem dX9_digest_202 : decode (am_code 75) 202 = .ok (.ldc2_w 255, 3) := by decide +kernel
theorem dX9_digest_205 : decode (am_code 75) 205 = .ok (.lload_n 1, 1) := by decide +kernel
theorem dX9_digest_206 : decode (am_code 75) 206 = .ok (.lmul, 1) := by decide +kernel
theorem dX9_digest_207 : decode (am_code 75) 207 = .ok (.aload_n 0, 1) := by decide +kernel
theorem dX9_digest_208 : decode (am_code 75) 208 = .ok (.getfield 10, 3) := by decide +kernel
theorem dX9_digest_211 : decode (am_code 75) 211 = .ok (.getfield 264, 3) := by decide +kernel
theorem dX9_digest_214 : decode (am_code 75) 214 = .ok (.iload_n 3, 1) := by decide +kernel
theorem dX9_digest_215 : decode (am_code 75) 215 = .ok (.iaload, 1) := by decide +kernel
theorem dX9_digest_216 : decode (am_code 75) 216 = .ok (.i2l, 1) := by decide +kernel
theorem dX9_digest_217 : decode (am_code 75) 217 = .ok (.ladd, 1) := by decide +kernel
theorem dX9_digest_218 : decode (am_code 75) 218 = .ok (.lstore_n 1, 1) := by decide +kernel
theorem dX9_digest_219 : decode (am_code 75) 219 = .ok (.iinc 3 1, 3) := by decide +kernel
theorem dX9_digest_222 : decode (am_code 75) 222 = .ok (.goto (-31), 3) := by decide +kernel
theorem dX9_digest_225 : decode (am_code 75) 225 = .ok (.iconst 0, 1) := by decide +kernel
theorem dX9_digest_226 : decode (am_code 75) 226 = .ok (.istore_n 3, 1) := by decide +kernel
theorem dX9_digest_227 : decode (am_code 75) 227 = .ok (.iload_n 3, 1) := by decide +kernel
theorem dX9_digest_228 : decode (am_code 75) 228 = .ok (.bipush 7, 2) := by decide +kernel
theorem dX9_digest_230 : decode (am_code 75) 230 = .ok (.if_icmp .ge 22, 3) := by decide +kernel
theorem dX9_digest_233 : decode (am_code 75) 233 = .ok (.ldc2_w 255, 3) := by decide +kernel
theorem dX9_digest_236 : decode (am_code 75) 236 = .ok (.lload_n 1, 1) := by decide +kernel
theorem dX9_digest_237 : decode (am_code 75) 237 = .ok (.lmul, 1) := by decide +kernel
theorem dX9_digest_238 : decode (am_code 75) 238 = .ok (.aload_n 0, 1) := by decide +kernel
theorem dX9_digest_239 : decode (am_code 75) 239 = .ok (.iload_n 3, 1) := by decide +kernel
theorem dX9_digest_240 : decode (am_code 75) 240 = .ok (.invokevirtual 267, 3) := by decide +kernel
theorem dX9_digest_243 : decode (am_code 75) 243 = .ok (.i2l, 1) := by decide +kernel
theorem dX9_digest_244 : decode (am_code 75) 244 = .ok (.ladd, 1) := by decide +kernel
theorem dX9_digest_245 : decode (am_code 75) 245 = .ok (.lstore_n 1, 1) := by decide +kernel
theorem dX9_digest_246 : decode (am_code 75) 246 = .ok (.iinc 3 1, 3) := by decide +kernel
theorem dX9_digest_249 : decode (am_code 75) 249 = .ok (.goto (-22), 3) := by decide +kernel
theorem dX9_digest_252 : decode (am_code 75) 252 = .ok (.lload_n 1, 1) := by decide +kernel
theorem dX9_digest_253 : decode (am_code 75) 253 = .ok (.lreturn, 1) := by decide +kernel
theorem r75_0 (d : Nat) (st : List Value) (σ : am_St) (τ : Int64) (x : Nat) (v1 v2 v3 : Value) : am_run d 75 0 [.ref x, v1, v2, v3] st σ τ = am_run d 75 1 [.ref x, v1, v2, v3] (.ref x :: st) σ τ := rr_aload_n dX9_digest_0 rfl
theorem r75_1 (d : Nat) (ls st : List Value) (σ : am_St) (τ : Int64) (k : Nat) : am_run d 75 1 ls (.ref k :: st) σ τ = am_gf k 9 5 σ τ (fun v => am_run d 75 4 ls (v :: st) σ τ) := rr_getf dX9_digest_1 (by decide +kernel)
theorem r75_4 (d : Nat) (st : List Value) (σ : am_St) (τ : Int64) (x : Nat) (v1 v2 v3 : Value) : am_run d 75 4 [.ref x, v1, v2, v3] st σ τ = am_run d 75 5 [.ref x, v1, v2, v3] (.ref x :: st) σ τ := rr_aload_n dX9_digest_4 rfl
theorem r75_5 (d : Nat) (ls st : List Value) (σ : am_St) (τ : Int64) (k : Nat) : am_run d 75 5 ls (.ref k :: st) σ τ = am_gf k 9 1 σ τ (fun v => am_run d 75 8 ls (v :: st) σ τ) := rr_getf dX9_digest_5 (by decide +kernel)
theorem r75_8 (d : Nat) (ls st : List Value) (σ : am_St) (τ : Int64) (k : Nat) (a0 : Nat) (hk : am_kc k = 2) (hc : am_cats st ≤ 8) : am_run (d + 1) 75 8 ls (.ref a0 :: .ref k :: st) σ τ = (am_call d 20 [.ref k, .ref a0] σ τ).bind (fun r => am_run (d + 1) 75 11 ls (r.1.toList ++ st) r.2.1 r.2.2) := rr_invv [.ref a0] dX9_digest_8 (by decide +kernel) (by decide) rfl (Nat.le_of_ble_eq_true rfl) hk hc
theorem r75_11 (d : Nat) (st : List Value) (σ : am_St) (τ : Int64) (x : Nat) (v1 v2 v3 : Value) : am_run d 75 11 [.ref x, v1, v2, v3] st σ τ = am_run d 75 12 [.ref x, v1, v2, v3] (.ref x :: st) σ τ := rr_aload_n dX9_digest_11 rfl
theorem r75_12 (d : Nat) (ls st : List Value) (σ : am_St) (τ : Int64) (k : Nat) : am_run d 75 12 ls (.ref k :: st) σ τ = am_gf k 9 6 σ τ (fun v => am_run d 75 15 ls (v :: st) σ τ) := rr_getf dX9_digest_12 (by decide +kernel)
theorem r75_15 (d : Nat) (st : List Value) (σ : am_St) (τ : Int64) (x : Nat) (v1 v2 v3 : Value) : am_run d 75 15 [.ref x, v1, v2, v3] st σ τ = am_run d 75 16 [.ref x, v1, v2, v3] (.ref x :: st) σ τ := rr_aload_n dX9_digest_15 rfl
theorem r75_16 (d : Nat) (ls st : List Value) (σ : am_St) (τ : Int64) (k : Nat) : am_run d 75 16 ls (.ref k :: st) σ τ = am_gf k 9 1 σ τ (fun v => am_run d 75 19 ls (v :: st) σ τ) := rr_getf dX9_digest_16 (by decide +kernel)
theorem r75_19 (d : Nat) (ls st : List Value) (σ : am_St) (τ : Int64) (k : Nat) : am_run d 75 19 ls (.ref k :: st) σ τ = am_gf k 4 3 σ τ (fun v => am_run d 75 22 ls (v :: st) σ τ) := rr_getf dX9_digest_19 (by decide +kernel)
theorem r75_22 (d : Nat) (ls st : List Value) (σ : am_St) (τ : Int64) (k : Nat) (a0 : Int32) (hk : am_kc k = 5) (hc : am_cats st ≤ 8) : am_run (d + 1) 75 22 ls (.int a0 :: .ref k :: st) σ τ = (am_call d 26 [.ref k, .int a0] σ τ).bind (fun r => am_run (d + 1) 75 25 ls (r.1.toList ++ st) r.2.1 r.2.2) := rr_invv [.int a0] dX9_digest_22 (by decide +kernel) (by decide) rfl (Nat.le_of_ble_eq_true rfl) hk hc
theorem r75_25 (d : Nat) (st : List Value) (σ : am_St) (τ : Int64) (x : Nat) (v1 v2 v3 : Value) : am_run d 75 25 [.ref x, v1, v2, v3] st σ τ = am_run d 75 26 [.ref x, v1, v2, v3] (.ref x :: st) σ τ := rr_aload_n dX9_digest_25 rfl
theorem r75_26 (d : Nat) (ls st : List Value) (σ : am_St) (τ : Int64) (k : Nat) : am_run d 75 26 ls (.ref k :: st) σ τ = am_gf k 9 7 σ τ (fun v => am_run d 75 29 ls (v :: st) σ τ) := rr_getf dX9_digest_26 (by decide +kernel)
theorem r75_29 (d : Nat) (ls st : List Value) (σ : am_St) (τ : Int64) (k : Nat)  (hk : am_kc k = 0) (hc : am_cats st ≤ 8) : am_run (d + 1) 75 29 ls (.ref k :: st) σ τ = (am_call d 1 [.ref k] σ τ).bind (fun r => am_run (d + 1) 75 32 ls (r.1.toList ++ st) r.2.1 r.2.2) := rr_invv [] dX9_digest_29 (by decide +kernel) (by decide) rfl (Nat.le_of_ble_eq_true rfl) hk hc
theorem r75_32 (d : Nat) (ls st : List Value) (σ : am_St) (τ : Int64) : am_run d 75 32 ls st σ τ = am_run d 75 35 ls (.long 601 :: st) σ τ := rr_ldc2 601 dX9_digest_32 (by decide +kernel)
theorem r75_35 (d : Nat) (st : List Value) (σ : am_St) (τ : Int64) (x : Int64) (v0 v1 v2 v3 : Value) : am_run d 75 35 [v0, v1, v2, v3] (.long x :: st) σ τ = am_run d 75 36 [am_nl v0, .long x, .null, v3] st σ τ := rr_lstore_n _ dX9_digest_35 (by decide) (by first | rfl | (by_cases h : v0.category = 2 <;> simp [am_set2, am_set1, am_nl, h]))
theorem r75_36 (d : Nat) (ls st : List Value) (σ : am_St) (τ : Int64) : am_run d 75 36 ls st σ τ = am_run d 75 37 ls (.int 0 :: st) σ τ := rr_iconst 0 dX9_digest_36 (by decide)
theorem r75_37 (d : Nat) (st : List Value) (σ : am_St) (τ : Int64) (x : Int32) (v0 v1 v2 v3 : Value) : am_run d 75 37 [v0, v1, v2, v3] (.int x :: st) σ τ = am_run d 75 38 [v0, v1, am_nl v2, .int x] st σ τ := rr_istore_n _ dX9_digest_37 (by decide) (by first | rfl | (by_cases h : v2.category = 2 <;> simp [am_set1, am_nl, h]))
theorem r75_38 (d : Nat) (st : List Value) (σ : am_St) (τ : Int64) (x : Int32) (v0 v1 v2 : Value) : am_run d 75 38 [v0, v1, v2, .int x] st σ τ = am_run d 75 39 [v0, v1, v2, .int x] (.int x :: st) σ τ := rr_iload_n dX9_digest_38 rfl
theorem r75_39 (d : Nat) (ls st : List Value) (σ : am_St) (τ : Int64) : am_run d 75 39 ls st σ τ = am_run d 75 40 ls (.int 4 :: st) σ τ := rr_iconst 4 dX9_digest_39 (by decide)
theorem r75_40 (d : Nat) (ls st : List Value) (σ : am_St) (τ : Int64) (x y : Int32) : am_run d 75 40 ls (.int y :: .int x :: st) σ τ = if y ≤ x then am_run d 75 62 ls st σ τ else am_run d 75 43 ls st σ τ := (rr_icmp 62 dX9_digest_40 (by decide)).trans am_sel
theorem r75_43 (d : Nat) (ls st : List Value) (σ : am_St) (τ : Int64) : am_run d 75 43 ls st σ τ = am_run d 75 46 ls (.long 31 :: st) σ τ := rr_ldc2 31 dX9_digest_43 (by decide +kernel)
theorem r75_46 (d : Nat) (st : List Value) (σ : am_St) (τ : Int64) (x : Int64) (v0 v2 v3 : Value) : am_run d 75 46 [v0, .long x, v2, v3] st σ τ = am_run d 75 47 [v0, .long x, v2, v3] (.long x :: st) σ τ := rr_lload_n dX9_digest_46 rfl
theorem r75_47 (d : Nat) (ls st : List Value) (σ : am_St) (τ : Int64) (x y : Int64) : am_run d 75 47 ls (.long y :: .long x :: st) σ τ = am_run d 75 48 ls (.long (x * y) :: st) σ τ := rr_lmul dX9_digest_47
theorem r75_48 (d : Nat) (st : List Value) (σ : am_St) (τ : Int64) (x : Nat) (v1 v2 v3 : Value) : am_run d 75 48 [.ref x, v1, v2, v3] st σ τ = am_run d 75 49 [.ref x, v1, v2, v3] (.ref x :: st) σ τ := rr_aload_n dX9_digest_48 rfl
theorem r75_49 (d : Nat) (st : List Value) (σ : am_St) (τ : Int64) (x : Int32) (v0 v1 v2 : Value) : am_run d 75 49 [v0, v1, v2, .int x] st σ τ = am_run d 75 50 [v0, v1, v2, .int x] (.int x :: st) σ τ := rr_iload_n dX9_digest_49 rfl
theorem r75_50 (d : Nat) (ls st : List Value) (σ : am_St) (τ : Int64) (k : Nat) (a0 : Int32) (hk : am_kc k = 9) (hc : am_cats st ≤ 8) : am_run (d + 1) 75 50 ls (.int a0 :: .ref k :: st) σ τ = (am_call d 55 [.ref k, .int a0] σ τ).bind (fun r => am_run (d + 1) 75 53 ls (r.1.toList ++ st) r.2.1 r.2.2) := rr_invv [.int a0] dX9_digest_50 (by decide +kernel) (by decide) rfl (Nat.le_of_ble_eq_true rfl) hk hc
theorem r75_53 (d : Nat) (ls st : List Value) (σ : am_St) (τ : Int64) (x : Int32) : am_run d 75 53 ls (.int x :: st) σ τ = am_run d 75 54 ls (.long x.toInt64 :: st) σ τ := rr_i2l dX9_digest_53
theorem r75_54 (d : Nat) (ls st : List Value) (σ : am_St) (τ : Int64) (x y : Int64) : am_run d 75 54 ls (.long y :: .long x :: st) σ τ = am_run d 75 55 ls (.long (x + y) :: st) σ τ := rr_ladd dX9_digest_54
theorem r75_55 (d : Nat) (st : List Value) (σ : am_St) (τ : Int64) (x : Int64) (v0 v1 v2 v3 : Value) : am_run d 75 55 [v0, v1, v2, v3] (.long x :: st) σ τ = am_run d 75 56 [am_nl v0, .long x, .null, v3] st σ τ := rr_lstore_n _ dX9_digest_55 (by decide) (by first | rfl | (by_cases h : v0.category = 2 <;> simp [am_set2, am_set1, am_nl, h]))
theorem r75_56 (d : Nat) (st : List Value) (σ : am_St) (τ : Int64) (x : Int32) (v0 v1 v2 : Value) : am_run d 75 56 [v0, v1, v2, .int x] st σ τ = am_run d 75 59 [v0, v1, am_nl v2, .int (x + 1)] st σ τ := rr_iinc 1 _ dX9_digest_56 rfl (by decide) (by decide) (by first | rfl | (by_cases h : v2.category = 2 <;> simp [am_set1, am_nl, h]))
theorem r75_59 (d : Nat) (ls st : List Value) (σ : am_St) (τ : Int64) : am_run d 75 59 ls st σ τ = am_run d 75 38 ls st σ τ := rr_goto 38 dX9_digest_59 (by decide)
theorem r75_62 (d : Nat) (ls st : List Value) (σ : am_St) (τ : Int64) : am_run d 75 62 ls st σ τ = am_run d 75 63 ls (.int 0 :: st) σ τ := rr_iconst 0 dX9_digest_62 (by decide)
theorem r75_63 (d : Nat) (st : List Value) (σ : am_St) (τ : Int64) (x : Int32) (v0 v1 v2 v3 : Value) : am_run d 75 63 [v0, v1, v2, v3] (.int x :: st) σ τ = am_run d 75 64 [v0, v1, am_nl v2, .int x] st σ τ := rr_istore_n _ dX9_digest_63 (by decide) (by first | rfl | (by_cases h : v2.category = 2 <;> simp [am_set1, am_nl, h]))
theorem r75_64 (d : Nat) (st : List Value) (σ : am_St) (τ : Int64) (x : Int32) (v0 v1 v2 : Value) : am_run d 75 64 [v0, v1, v2, .int x] st σ τ = am_run d 75 65 [v0, v1, v2, .int x] (.int x :: st) σ τ := rr_iload_n dX9_digest_64 rfl
theorem r75_65 (d : Nat) (st : List Value) (σ : am_St) (τ : Int64) (x : Nat) (v1 v2 v3 : Value) : am_run d 75 65 [.ref x, v1, v2, v3] st σ τ = am_run d 75 66 [.ref x, v1, v2, v3] (.ref x :: st) σ τ := rr_aload_n dX9_digest_65 rfl
theorem r75_66 (d : Nat) (ls st : List Value) (σ : am_St) (τ : Int64) (k : Nat) : am_run d 75 66 ls (.ref k :: st) σ τ = am_gf k 9 2 σ τ (fun v => am_run d 75 69 ls (v :: st) σ τ) := rr_getf dX9_digest_66 (by decide +kernel)
theorem r75_69 (d : Nat) (ls st : List Value) (σ : am_St) (τ : Int64) (k : Nat) : am_run d 75 69 ls (.ref k :: st) σ τ = am_gf k 1 0 σ τ (fun v => am_run d 75 72 ls (v :: st) σ τ) := rr_getf dX9_digest_69 (by decide +kernel)
theorem r75_72 (d : Nat) (ls st : List Value) (σ : am_St) (τ : Int64) (x y : Int32) : am_run d 75 72 ls (.int y :: .int x :: st) σ τ = if y ≤ x then am_run d 75 88 ls st σ τ else am_run d 75 75 ls st σ τ := (rr_icmp 88 dX9_digest_72 (by decide)).trans am_sel
theorem r75_75 (d : Nat) (st : List Value) (σ : am_St) (τ : Int64) (x : Nat) (v1 v2 v3 : Value) : am_run d 75 75 [.ref x, v1, v2, v3] st σ τ = am_run d 75 76 [.ref x, v1, v2, v3] (.ref x :: st) σ τ := rr_aload_n dX9_digest_75 rfl
theorem r75_76 (d : Nat) (st : List Value) (σ : am_St) (τ : Int64) (x : Int64) (v0 v2 v3 : Value) : am_run d 75 76 [v0, .long x, v2, v3] st σ τ = am_run d 75 77 [v0, .long x, v2, v3] (.long x :: st) σ τ := rr_lload_n dX9_digest_76 rfl
theorem r75_77 (d : Nat) (st : List Value) (σ : am_St) (τ : Int64) (x : Int32) (v0 v1 v2 : Value) : am_run d 75 77 [v0, v1, v2, .int x] st σ τ = am_run d 75 78 [v0, v1, v2, .int x] (.int x :: st) σ τ := rr_iload_n dX9_digest_77 rfl
theorem r75_78 (d : Nat) (ls st : List Value) (σ : am_St) (τ : Int64) (k : Nat) (a0 : Int64) (a1 : Int32) (hk : am_kc k = 9) (hc : am_cats st ≤ 8) : am_run (d + 1) 75 78 ls (.int a1 :: .long a0 :: .ref k :: st) σ τ = (am_call d 76 [.ref k, .long a0, .int a1] σ τ).bind (fun r => am_run (d + 1) 75 81 ls (r.1.toList ++ st) r.2.1 r.2.2) := rr_invv [.long a0, .int a1] dX9_digest_78 (by decide +kernel) (by decide) rfl (Nat.le_of_ble_eq_true rfl) hk hc
theorem r75_81 (d : Nat) (st : List Value) (σ : am_St) (τ : Int64) (x : Int64) (v0 v1 v2 v3 : Value) : am_run d 75 81 [v0, v1, v2, v3] (.long x :: st) σ τ = am_run d 75 82 [am_nl v0, .long x, .null, v3] st σ τ := rr_lstore_n _ dX9_digest_81 (by decide) (by first | rfl | (by_cases h : v0.category = 2 <;> simp [am_set2, am_set1, am_nl, h]))
theorem r75_82 (d : Nat) (st : List Value) (σ : am_St) (τ : Int64) (x : Int32) (v0 v1 v2 : Value) : am_run d 75 82 [v0, v1, v2, .int x] st σ τ = am_run d 75 85 [v0, v1, am_nl v2, .int (x + 1)] st σ τ := rr_iinc 1 _ dX9_digest_82 rfl (by decide) (by decide) (by first | rfl | (by_cases h : v2.category = 2 <;> simp [am_set1, am_nl, h]))
theorem r75_85 (d : Nat) (ls st : List Value) (σ : am_St) (τ : Int64) : am_run d 75 85 ls st σ τ = am_run d 75 64 ls st σ τ := rr_goto 64 dX9_digest_85 (by decide)
theorem r75_88 (d : Nat) (ls st : List Value) (σ : am_St) (τ : Int64) : am_run d 75 88 ls st σ τ = am_run d 75 91 ls (.long 31 :: st) σ τ := rr_ldc2 31 dX9_digest_88 (by decide +kernel)
theorem r75_91 (d : Nat) (st : List Value) (σ : am_St) (τ : Int64) (x : Int64) (v0 v2 v3 : Value) : am_run d 75 91 [v0, .long x, v2, v3] st σ τ = am_run d 75 92 [v0, .long x, v2, v3] (.long x :: st) σ τ := rr_lload_n dX9_digest_91 rfl
theorem r75_92 (d : Nat) (ls st : List Value) (σ : am_St) (τ : Int64) (x y : Int64) : am_run d 75 92 ls (.long y :: .long x :: st) σ τ = am_run d 75 93 ls (.long (x * y) :: st) σ τ := rr_lmul dX9_digest_92
theorem r75_93 (d : Nat) (st : List Value) (σ : am_St) (τ : Int64) (x : Nat) (v1 v2 v3 : Value) : am_run d 75 93 [.ref x, v1, v2, v3] st σ τ = am_run d 75 94 [.ref x, v1, v2, v3] (.ref x :: st) σ τ := rr_aload_n dX9_digest_93 rfl
theorem r75_94 (d : Nat) (ls st : List Value) (σ : am_St) (τ : Int64) (k : Nat) : am_run d 75 94 ls (.ref k :: st) σ τ = am_gf k 9 3 σ τ (fun v => am_run d 75 97 ls (v :: st) σ τ) := rr_getf dX9_digest_94 (by decide +kernel)
theorem r75_97 (d : Nat) (ls st : List Value) (σ : am_St) (τ : Int64) (k : Nat)  (hk : am_kc k = 7) (hc : am_cats st ≤ 8) : am_run (d + 1) 75 97 ls (.ref k :: st) σ τ = (am_call d 42 [.ref k] σ τ).bind (fun r => am_run (d + 1) 75 100 ls (r.1.toList ++ st) r.2.1 r.2.2) := rr_invv [] dX9_digest_97 (by decide +kernel) (by decide) rfl (Nat.le_of_ble_eq_true rfl) hk hc
theorem r75_100 (d : Nat) (ls st : List Value) (σ : am_St) (τ : Int64) (x : Int32) : am_run d 75 100 ls (.int x :: st) σ τ = am_run d 75 101 ls (.long x.toInt64 :: st) σ τ := rr_i2l dX9_digest_100
theorem r75_101 (d : Nat) (ls st : List Value) (σ : am_St) (τ : Int64) (x y : Int64) : am_run d 75 101 ls (.long y :: .long x :: st) σ τ = am_run d 75 102 ls (.long (x + y) :: st) σ τ := rr_ladd dX9_digest_101
theorem r75_102 (d : Nat) (st : List Value) (σ : am_St) (τ : Int64) (x : Int64) (v0 v1 v2 v3 : Value) : am_run d 75 102 [v0, v1, v2, v3] (.long x :: st) σ τ = am_run d 75 103 [am_nl v0, .long x, .null, v3] st σ τ := rr_lstore_n _ dX9_digest_102 (by decide) (by first | rfl | (by_cases h : v0.category = 2 <;> simp [am_set2, am_set1, am_nl, h]))
theorem r75_103 (d : Nat) (ls st : List Value) (σ : am_St) (τ : Int64) : am_run d 75 103 ls st σ τ = am_run d 75 106 ls (.long 31 :: st) σ τ := rr_ldc2 31 dX9_digest_103 (by decide +kernel)
theorem r75_106 (d : Nat) (st : List Value) (σ : am_St) (τ : Int64) (x : Int64) (v0 v2 v3 : Value) : am_run d 75 106 [v0, .long x, v2, v3] st σ τ = am_run d 75 107 [v0, .long x, v2, v3] (.long x :: st) σ τ := rr_lload_n dX9_digest_106 rfl
theorem r75_107 (d : Nat) (ls st : List Value) (σ : am_St) (τ : Int64) (x y : Int64) : am_run d 75 107 ls (.long y :: .long x :: st) σ τ = am_run d 75 108 ls (.long (x * y) :: st) σ τ := rr_lmul dX9_digest_107
theorem r75_108 (d : Nat) (st : List Value) (σ : am_St) (τ : Int64) (x : Nat) (v1 v2 v3 : Value) : am_run d 75 108 [.ref x, v1, v2, v3] st σ τ = am_run d 75 109 [.ref x, v1, v2, v3] (.ref x :: st) σ τ := rr_aload_n dX9_digest_108 rfl
theorem r75_109 (d : Nat) (ls st : List Value) (σ : am_St) (τ : Int64) (k : Nat) : am_run d 75 109 ls (.ref k :: st) σ τ = am_gf k 9 3 σ τ (fun v => am_run d 75 112 ls (v :: st) σ τ) := rr_getf dX9_digest_109 (by decide +kernel)
theorem r75_112 (d : Nat) (ls st : List Value) (σ : am_St) (τ : Int64) (k : Nat)  (hk : am_kc k = 7) (hc : am_cats st ≤ 8) : am_run (d + 1) 75 112 ls (.ref k :: st) σ τ = (am_call d 43 [.ref k] σ τ).bind (fun r => am_run (d + 1) 75 115 ls (r.1.toList ++ st) r.2.1 r.2.2) := rr_invv [] dX9_digest_112 (by decide +kernel) (by decide) rfl (Nat.le_of_ble_eq_true rfl) hk hc
theorem r75_115 (d : Nat) (ls st : List Value) (σ : am_St) (τ : Int64) (x : Int32) : am_run d 75 115 ls (.int x :: st) σ τ = am_run d 75 116 ls (.long x.toInt64 :: st) σ τ := rr_i2l dX9_digest_115
theorem r75_116 (d : Nat) (ls st : List Value) (σ : am_St) (τ : Int64) (x y : Int64) : am_run d 75 116 ls (.long y :: .long x :: st) σ τ = am_run d 75 117 ls (.long (x + y) :: st) σ τ := rr_ladd dX9_digest_116
theorem r75_117 (d : Nat) (st : List Value) (σ : am_St) (τ : Int64) (x : Int64) (v0 v1 v2 v3 : Value) : am_run d 75 117 [v0, v1, v2, v3] (.long x :: st) σ τ = am_run d 75 118 [am_nl v0, .long x, .null, v3] st σ τ := rr_lstore_n _ dX9_digest_117 (by decide) (by first | rfl | (by_cases h : v0.category = 2 <;> simp [am_set2, am_set1, am_nl, h]))
theorem r75_118 (d : Nat) (ls st : List Value) (σ : am_St) (τ : Int64) : am_run d 75 118 ls st σ τ = am_run d 75 121 ls (.long 31 :: st) σ τ := rr_ldc2 31 dX9_digest_118 (by decide +kernel)
theorem r75_121 (d : Nat) (st : List Value) (σ : am_St) (τ : Int64) (x : Int64) (v0 v2 v3 : Value) : am_run d 75 121 [v0, .long x, v2, v3] st σ τ = am_run d 75 122 [v0, .long x, v2, v3] (.long x :: st) σ τ := rr_lload_n dX9_digest_121 rfl
theorem r75_122 (d : Nat) (ls st : List Value) (σ : am_St) (τ : Int64) (x y : Int64) : am_run d 75 122 ls (.long y :: .long x :: st) σ τ = am_run d 75 123 ls (.long (x * y) :: st) σ τ := rr_lmul dX9_digest_122
theorem r75_123 (d : Nat) (st : List Value) (σ : am_St) (τ : Int64) (x : Nat) (v1 v2 v3 : Value) : am_run d 75 123 [.ref x, v1, v2, v3] st σ τ = am_run d 75 124 [.ref x, v1, v2, v3] (.ref x :: st) σ τ := rr_aload_n dX9_digest_123 rfl
theorem r75_124 (d : Nat) (ls st : List Value) (σ : am_St) (τ : Int64) (k : Nat) : am_run d 75 124 ls (.ref k :: st) σ τ = am_gf k 9 5 σ τ (fun v => am_run d 75 127 ls (v :: st) σ τ) := rr_getf dX9_digest_124 (by decide +kernel)
theorem r75_127 (d : Nat) (ls st : List Value) (σ : am_St) (τ : Int64) (k : Nat) : am_run d 75 127 ls (.ref k :: st) σ τ = am_gf k 2 0 σ τ (fun v => am_run d 75 130 ls (v :: st) σ τ) := rr_getf dX9_digest_127 (by decide +kernel)
theorem r75_130 (d : Nat) (ls st : List Value) (σ : am_St) (τ : Int64) (x : Int32) : am_run d 75 130 ls (.int x :: st) σ τ = am_run d 75 131 ls (.long x.toInt64 :: st) σ τ := rr_i2l dX9_digest_130
theorem r75_131 (d : Nat) (ls st : List Value) (σ : am_St) (τ : Int64) (x y : Int64) : am_run d 75 131 ls (.long y :: .long x :: st) σ τ = am_run d 75 132 ls (.long (x + y) :: st) σ τ := rr_ladd dX9_digest_131
theorem r75_132 (d : Nat) (st : List Value) (σ : am_St) (τ : Int64) (x : Int64) (v0 v1 v2 v3 : Value) : am_run d 75 132 [v0, v1, v2, v3] (.long x :: st) σ τ = am_run d 75 133 [am_nl v0, .long x, .null, v3] st σ τ := rr_lstore_n _ dX9_digest_132 (by decide) (by first | rfl | (by_cases h : v0.category = 2 <;> simp [am_set2, am_set1, am_nl, h]))
theorem r75_133 (d : Nat) (ls st : List Value) (σ : am_St) (τ : Int64) : am_run d 75 133 ls st σ τ = am_run d 75 134 ls (.int 0 :: st) σ τ := rr_iconst 0 dX9_digest_133 (by decide)
theorem r75_134 (d : Nat) (st : List Value) (σ : am_St) (τ : Int64) (x : Int32) (v0 v1 v2 v3 : Value) : am_run d 75 134 [v0, v1, v2, v3] (.int x :: st) σ τ = am_run d 75 135 [v0, v1, am_nl v2, .int x] st σ τ := rr_istore_n _ dX9_digest_134 (by decide) (by first | rfl | (by_cases h : v2.category = 2 <;> simp [am_set1, am_nl, h]))
theorem r75_135 (d : Nat) (st : List Value) (σ : am_St) (τ : Int64) (x : Int32) (v0 v1 v2 : Value) : am_run d 75 135 [v0, v1, v2, .int x] st σ τ = am_run d 75 136 [v0, v1, v2, .int x] (.int x :: st) σ τ := rr_iload_n dX9_digest_135 rfl
theorem r75_136 (d : Nat) (ls st : List Value) (σ : am_St) (τ : Int64) : am_run d 75 136 ls st σ τ = am_run d 75 137 ls (.int 4 :: st) σ τ := rr_iconst 4 dX9_digest_136 (by decide)
theorem r75_137 (d : Nat) (ls st : List Value) (σ : am_St) (τ : Int64) (x y : Int32) : am_run d 75 137 ls (.int y :: .int x :: st) σ τ = if y ≤ x then am_run d 75 162 ls st σ τ else am_run d 75 140 ls st σ τ := (rr_icmp 162 dX9_digest_137 (by decide)).trans am_sel
theorem r75_140 (d : Nat) (ls st : List Value) (σ : am_St) (τ : Int64) : am_run d 75 140 ls st σ τ = am_run d 75 143 ls (.long 31 :: st) σ τ := rr_ldc2 31 dX9_digest_140 (by decide +kernel)
theorem r75_143 (d : Nat) (st : List Value) (σ : am_St) (τ : Int64) (x : Int64) (v0 v2 v3 : Value) : am_run d 75 143 [v0, .long x, v2, v3] st σ τ = am_run d 75 144 [v0, .long x, v2, v3] (.long x :: st) σ τ := rr_lload_n dX9_digest_143 rfl
theorem r75_144 (d : Nat) (ls st : List Value) (σ : am_St) (τ : Int64) (x y : Int64) : am_run d 75 144 ls (.long y :: .long x :: st) σ τ = am_run d 75 145 ls (.long (x * y) :: st) σ τ := rr_lmul dX9_digest_144
theorem r75_145 (d : Nat) (st : List Value) (σ : am_St) (τ : Int64) (x : Nat) (v1 v2 v3 : Value) : am_run d 75 145 [.ref x, v1, v2, v3] st σ τ = am_run d 75 146 [.ref x, v1, v2, v3] (.ref x :: st) σ τ := rr_aload_n dX9_digest_145 rfl
theorem r75_146 (d : Nat) (ls st : List Value) (σ : am_St) (τ : Int64) (k : Nat) : am_run d 75 146 ls (.ref k :: st) σ τ = am_gf k 9 6 σ τ (fun v => am_run d 75 149 ls (v :: st) σ τ) := rr_getf dX9_digest_146 (by decide +kernel)
theorem r75_149 (d : Nat) (st : List Value) (σ : am_St) (τ : Int64) (x : Int32) (v0 v1 v2 : Value) : am_run d 75 149 [v0, v1, v2, .int x] st σ τ = am_run d 75 150 [v0, v1, v2, .int x] (.int x :: st) σ τ := rr_iload_n dX9_digest_149 rfl
theorem r75_150 (d : Nat) (ls st : List Value) (σ : am_St) (τ : Int64) (k : Nat) (a0 : Int32) (hk : am_kc k = 5) (hc : am_cats st ≤ 8) : am_run (d + 1) 75 150 ls (.int a0 :: .ref k :: st) σ τ = (am_call d 27 [.ref k, .int a0] σ τ).bind (fun r => am_run (d + 1) 75 153 ls (r.1.toList ++ st) r.2.1 r.2.2) := rr_invv [.int a0] dX9_digest_150 (by decide +kernel) (by decide) rfl (Nat.le_of_ble_eq_true rfl) hk hc
theorem r75_153 (d : Nat) (ls st : List Value) (σ : am_St) (τ : Int64) (x : Int32) : am_run d 75 153 ls (.int x :: st) σ τ = am_run d 75 154 ls (.long x.toInt64 :: st) σ τ := rr_i2l dX9_digest_153
theorem r75_154 (d : Nat) (ls st : List Value) (σ : am_St) (τ : Int64) (x y : Int64) : am_run d 75 154 ls (.long y :: .long x :: st) σ τ = am_run d 75 155 ls (.long (x + y) :: st) σ τ := rr_ladd dX9_digest_154
theorem r75_155 (d : Nat) (st : List Value) (σ : am_St) (τ : Int64) (x : Int64) (v0 v1 v2 v3 : Value) : am_run d 75 155 [v0, v1, v2, v3] (.long x :: st) σ τ = am_run d 75 156 [am_nl v0, .long x, .null, v3] st σ τ := rr_lstore_n _ dX9_digest_155 (by decide) (by first | rfl | (by_cases h : v0.category = 2 <;> simp [am_set2, am_set1, am_nl, h]))
theorem r75_156 (d : Nat) (st : List Value) (σ : am_St) (τ : Int64) (x : Int32) (v0 v1 v2 : Value) : am_run d 75 156 [v0, v1, v2, .int x] st σ τ = am_run d 75 159 [v0, v1, am_nl v2, .int (x + 1)] st σ τ := rr_iinc 1 _ dX9_digest_156 rfl (by decide) (by decide) (by first | rfl | (by_cases h : v2.category = 2 <;> simp [am_set1, am_nl, h]))
theorem r75_159 (d : Nat) (ls st : List Value) (σ : am_St) (τ : Int64) : am_run d 75 159 ls st σ τ = am_run d 75 135 ls st σ τ := rr_goto 135 dX9_digest_159 (by decide)
theorem r75_162 (d : Nat) (ls st : List Value) (σ : am_St) (τ : Int64) : am_run d 75 162 ls st σ τ = am_run d 75 163 ls (.int 0 :: st) σ τ := rr_iconst 0 dX9_digest_162 (by decide)
theorem r75_163 (d : Nat) (st : List Value) (σ : am_St) (τ : Int64) (x : Int32) (v0 v1 v2 v3 : Value) : am_run d 75 163 [v0, v1, v2, v3] (.int x :: st) σ τ = am_run d 75 164 [v0, v1, am_nl v2, .int x] st σ τ := rr_istore_n _ dX9_digest_163 (by decide) (by first | rfl | (by_cases h : v2.category = 2 <;> simp [am_set1, am_nl, h]))
theorem r75_164 (d : Nat) (st : List Value) (σ : am_St) (τ : Int64) (x : Int32) (v0 v1 v2 : Value) : am_run d 75 164 [v0, v1, v2, .int x] st σ τ = am_run d 75 165 [v0, v1, v2, .int x] (.int x :: st) σ τ := rr_iload_n dX9_digest_164 rfl
theorem r75_165 (d : Nat) (ls st : List Value) (σ : am_St) (τ : Int64) : am_run d 75 165 ls st σ τ = am_run d 75 167 ls (.int 6 :: st) σ τ := rr_bipush 6 dX9_digest_165 (by decide)
theorem r75_167 (d : Nat) (ls st : List Value) (σ : am_St) (τ : Int64) (x y : Int32) : am_run d 75 167 ls (.int y :: .int x :: st) σ τ = if y ≤ x then am_run d 75 189 ls st σ τ else am_run d 75 170 ls st σ τ := (rr_icmp 189 dX9_digest_167 (by decide)).trans am_sel
theorem r75_170 (d : Nat) (ls st : List Value) (σ : am_St) (τ : Int64) : am_run d 75 170 ls st σ τ = am_run d 75 173 ls (.long 31 :: st) σ τ := rr_ldc2 31 dX9_digest_170 (by decide +kernel)
theorem r75_173 (d : Nat) (st : List Value) (σ : am_St) (τ : Int64) (x : Int64) (v0 v2 v3 : Value) : am_run d 75 173 [v0, .long x, v2, v3] st σ τ = am_run d 75 174 [v0, .long x, v2, v3] (.long x :: st) σ τ := rr_lload_n dX9_digest_173 rfl
theorem r75_174 (d : Nat) (ls st : List Value) (σ : am_St) (τ : Int64) (x y : Int64) : am_run d 75 174 ls (.long y :: .long x :: st) σ τ = am_run d 75 175 ls (.long (x * y) :: st) σ τ := rr_lmul dX9_digest_174
theorem r75_175 (d : Nat) (st : List Value) (σ : am_St) (τ : Int64) (x : Nat) (v1 v2 v3 : Value) : am_run d 75 175 [.ref x, v1, v2, v3] st σ τ = am_run d 75 176 [.ref x, v1, v2, v3] (.ref x :: st) σ τ := rr_aload_n dX9_digest_175 rfl
theorem r75_176 (d : Nat) (st : List Value) (σ : am_St) (τ : Int64) (x : Int32) (v0 v1 v2 : Value) : am_run d 75 176 [v0, v1, v2, .int x] st σ τ = am_run d 75 177 [v0, v1, v2, .int x] (.int x :: st) σ τ := rr_iload_n dX9_digest_176 rfl
theorem r75_177 (d : Nat) (ls st : List Value) (σ : am_St) (τ : Int64) (k : Nat) (a0 : Int32) (hk : am_kc k = 9) (hc : am_cats st ≤ 8) : am_run (d + 1) 75 177 ls (.int a0 :: .ref k :: st) σ τ = (am_call d 78 [.ref k, .int a0] σ τ).bind (fun r => am_run (d + 1) 75 180 ls (r.1.toList ++ st) r.2.1 r.2.2) := rr_invv [.int a0] dX9_digest_177 (by decide +kernel) (by decide) rfl (Nat.le_of_ble_eq_true rfl) hk hc
theorem r75_180 (d : Nat) (ls st : List Value) (σ : am_St) (τ : Int64) (x : Int32) : am_run d 75 180 ls (.int x :: st) σ τ = am_run d 75 181 ls (.long x.toInt64 :: st) σ τ := rr_i2l dX9_digest_180
theorem r75_181 (d : Nat) (ls st : List Value) (σ : am_St) (τ : Int64) (x y : Int64) : am_run d 75 181 ls (.long y :: .long x :: st) σ τ = am_run d 75 182 ls (.long (x + y) :: st) σ τ := rr_ladd dX9_digest_181
theorem r75_182 (d : Nat) (st : List Value) (σ : am_St) (τ : Int64) (x : Int64) (v0 v1 v2 v3 : Value) : am_run d 75 182 [v0, v1, v2, v3] (.long x :: st) σ τ = am_run d 75 183 [am_nl v0, .long x, .null, v3] st σ τ := rr_lstore_n _ dX9_digest_182 (by decide) (by first | rfl | (by_cases h : v0.category = 2 <;> simp [am_set2, am_set1, am_nl, h]))
theorem r75_183 (d : Nat) (st : List Value) (σ : am_St) (τ : Int64) (x : Int32) (v0 v1 v2 : Value) : am_run d 75 183 [v0, v1, v2, .int x] st σ τ = am_run d 75 186 [v0, v1, am_nl v2, .int (x + 1)] st σ τ := rr_iinc 1 _ dX9_digest_183 rfl (by decide) (by decide) (by first | rfl | (by_cases h : v2.category = 2 <;> simp [am_set1, am_nl, h]))
theorem r75_186 (d : Nat) (ls st : List Value) (σ : am_St) (τ : Int64) : am_run d 75 186 ls st σ τ = am_run d 75 164 ls st σ τ := rr_goto 164 dX9_digest_186 (by decide)
theorem r75_189 (d : Nat) (ls st : List Value) (σ : am_St) (τ : Int64) : am_run d 75 189 ls st σ τ = am_run d 75 190 ls (.int 0 :: st) σ τ := rr_iconst 0 dX9_digest_189 (by decide)
theorem r75_190 (d : Nat) (st : List Value) (σ : am_St) (τ : Int64) (x : Int32) (v0 v1 v2 v3 : Value) : am_run d 75 190 [v0, v1, v2, v3] (.int x :: st) σ τ = am_run d 75 191 [v0, v1, am_nl v2, .int x] st σ τ := rr_istore_n _ dX9_digest_190 (by decide) (by first | rfl | (by_cases h : v2.category = 2 <;> simp [am_set1, am_nl, h]))
theorem r75_191 (d : Nat) (st : List Value) (σ : am_St) (τ : Int64) (x : Int32) (v0 v1 v2 : Value) : am_run d 75 191 [v0, v1, v2, .int x] st σ τ = am_run d 75 192 [v0, v1, v2, .int x] (.int x :: st) σ τ := rr_iload_n dX9_digest_191 rfl
theorem r75_192 (d : Nat) (st : List Value) (σ : am_St) (τ : Int64) (x : Nat) (v1 v2 v3 : Value) : am_run d 75 192 [.ref x, v1, v2, v3] st σ τ = am_run d 75 193 [.ref x, v1, v2, v3] (.ref x :: st) σ τ := rr_aload_n dX9_digest_192 rfl
theorem r75_193 (d : Nat) (ls st : List Value) (σ : am_St) (τ : Int64) (k : Nat) : am_run d 75 193 ls (.ref k :: st) σ τ = am_gf k 9 0 σ τ (fun v => am_run d 75 196 ls (v :: st) σ τ) := rr_getf dX9_digest_193 (by decide +kernel)
theorem r75_196 (d : Nat) (ls st : List Value) (σ : am_St) (τ : Int64) (k : Nat) : am_run d 75 196 ls (.ref k :: st) σ τ = am_gf k 8 1 σ τ (fun v => am_run d 75 199 ls (v :: st) σ τ) := rr_getf dX9_digest_196 (by decide +kernel)
theorem r75_199 (d : Nat) (ls st : List Value) (σ : am_St) (τ : Int64) (x y : Int32) : am_run d 75 199 ls (.int y :: .int x :: st) σ τ = if y ≤ x then am_run d 75 225 ls st σ τ else am_run d 75 202 ls st σ τ := (rr_icmp 225 dX9_digest_199 (by decide)).trans am_sel
theorem r75_202 (d : Nat) (ls st : List Value) (σ : am_St) (τ : Int64) : am_run d 75 202 ls st σ τ = am_run d 75 205 ls (.long 31 :: st) σ τ := rr_ldc2 31 dX9_digest_202 (by decide +kernel)
theorem r75_205 (d : Nat) (st : List Value) (σ : am_St) (τ : Int64) (x : Int64) (v0 v2 v3 : Value) : am_run d 75 205 [v0, .long x, v2, v3] st σ τ = am_run d 75 206 [v0, .long x, v2, v3] (.long x :: st) σ τ := rr_lload_n dX9_digest_205 rfl
theorem r75_206 (d : Nat) (ls st : List Value) (σ : am_St) (τ : Int64) (x y : Int64) : am_run d 75 206 ls (.long y :: .long x :: st) σ τ = am_run d 75 207 ls (.long (x * y) :: st) σ τ := rr_lmul dX9_digest_206
theorem r75_207 (d : Nat) (st : List Value) (σ : am_St) (τ : Int64) (x : Nat) (v1 v2 v3 : Value) : am_run d 75 207 [.ref x, v1, v2, v3] st σ τ = am_run d 75 208 [.ref x, v1, v2, v3] (.ref x :: st) σ τ := rr_aload_n dX9_digest_207 rfl
theorem r75_208 (d : Nat) (ls st : List Value) (σ : am_St) (τ : Int64) (k : Nat) : am_run d 75 208 ls (.ref k :: st) σ τ = am_gf k 9 0 σ τ (fun v => am_run d 75 211 ls (v :: st) σ τ) := rr_getf dX9_digest_208 (by decide +kernel)
theorem r75_211 (d : Nat) (ls st : List Value) (σ : am_St) (τ : Int64) (k : Nat) : am_run d 75 211 ls (.ref k :: st) σ τ = am_gf k 8 0 σ τ (fun v => am_run d 75 214 ls (v :: st) σ τ) := rr_getf dX9_digest_211 (by decide +kernel)
theorem r75_214 (d : Nat) (st : List Value) (σ : am_St) (τ : Int64) (x : Int32) (v0 v1 v2 : Value) : am_run d 75 214 [v0, v1, v2, .int x] st σ τ = am_run d 75 215 [v0, v1, v2, .int x] (.int x :: st) σ τ := rr_iload_n dX9_digest_214 rfl
theorem r75_215 (d : Nat) (ls st : List Value) (σ : am_St) (τ : Int64) (i : Int32) (k : Nat) : am_run d 75 215 ls (.int i :: .ref k :: st) σ τ = am_ai false k i (fun j => am_run d 75 216 ls (.int (σ k j) :: st) σ τ) := rr_iald dX9_digest_215
theorem r75_216 (d : Nat) (ls st : List Value) (σ : am_St) (τ : Int64) (x : Int32) : am_run d 75 216 ls (.int x :: st) σ τ = am_run d 75 217 ls (.long x.toInt64 :: st) σ τ := rr_i2l dX9_digest_216
theorem r75_217 (d : Nat) (ls st : List Value) (σ : am_St) (τ : Int64) (x y : Int64) : am_run d 75 217 ls (.long y :: .long x :: st) σ τ = am_run d 75 218 ls (.long (x + y) :: st) σ τ := rr_ladd dX9_digest_217
theorem r75_218 (d : Nat) (st : List Value) (σ : am_St) (τ : Int64) (x : Int64) (v0 v1 v2 v3 : Value) : am_run d 75 218 [v0, v1, v2, v3] (.long x :: st) σ τ = am_run d 75 219 [am_nl v0, .long x, .null, v3] st σ τ := rr_lstore_n _ dX9_digest_218 (by decide) (by first | rfl | (by_cases h : v0.category = 2 <;> simp [am_set2, am_set1, am_nl, h]))
theorem r75_219 (d : Nat) (st : List Value) (σ : am_St) (τ : Int64) (x : Int32) (v0 v1 v2 : Value) : am_run d 75 219 [v0, v1, v2, .int x] st σ τ = am_run d 75 222 [v0, v1, am_nl v2, .int (x + 1)] st σ τ := rr_iinc 1 _ dX9_digest_219 rfl (by decide) (by decide) (by first | rfl | (by_cases h : v2.category = 2 <;> simp [am_set1, am_nl, h]))
theorem r75_222 (d : Nat) (ls st : List Value) (σ : am_St) (τ : Int64) : am_run d 75 222 ls st σ τ = am_run d 75 191 ls st σ τ := rr_goto 191 dX9_digest_222 (by decide)
theorem r75_225 (d : Nat) (ls st : List Value) (σ : am_St) (τ : Int64) : am_run d 75 225 ls st σ τ = am_run d 75 226 ls (.int 0 :: st) σ τ := rr_iconst 0 dX9_digest_225 (by decide)
theorem r75_226 (d : Nat) (st : List Value) (σ : am_St) (τ : Int64) (x : Int32) (v0 v1 v2 v3 : Value) : am_run d 75 226 [v0, v1, v2, v3] (.int x :: st) σ τ = am_run d 75 227 [v0, v1, am_nl v2, .int x] st σ τ := rr_istore_n _ dX9_digest_226 (by decide) (by first | rfl | (by_cases h : v2.category = 2 <;> simp [am_set1, am_nl, h]))
theorem r75_227 (d : Nat) (st : List Value) (σ : am_St) (τ : Int64) (x : Int32) (v0 v1 v2 : Value) : am_run d 75 227 [v0, v1, v2, .int x] st σ τ = am_run d 75 228 [v0, v1, v2, .int x] (.int x :: st) σ τ := rr_iload_n dX9_digest_227 rfl
theorem r75_228 (d : Nat) (ls st : List Value) (σ : am_St) (τ : Int64) : am_run d 75 228 ls st σ τ = am_run d 75 230 ls (.int 7 :: st) σ τ := rr_bipush 7 dX9_digest_228 (by decide)
theorem r75_230 (d : Nat) (ls st : List Value) (σ : am_St) (τ : Int64) (x y : Int32) : am_run d 75 230 ls (.int y :: .int x :: st) σ τ = if y ≤ x then am_run d 75 252 ls st σ τ else am_run d 75 233 ls st σ τ := (rr_icmp 252 dX9_digest_230 (by decide)).trans am_sel
theorem r75_233 (d : Nat) (ls st : List Value) (σ : am_St) (τ : Int64) : am_run d 75 233 ls st σ τ = am_run d 75 236 ls (.long 31 :: st) σ τ := rr_ldc2 31 dX9_digest_233 (by decide +kernel)
theorem r75_236 (d : Nat) (st : List Value) (σ : am_St) (τ : Int64) (x : Int64) (v0 v2 v3 : Value) : am_run d 75 236 [v0, .long x, v2, v3] st σ τ = am_run d 75 237 [v0, .long x, v2, v3] (.long x :: st) σ τ := rr_lload_n dX9_digest_236 rfl
theorem r75_237 (d : Nat) (ls st : List Value) (σ : am_St) (τ : Int64) (x y : Int64) : am_run d 75 237 ls (.long y :: .long x :: st) σ τ = am_run d 75 238 ls (.long (x * y) :: st) σ τ := rr_lmul dX9_digest_237
theorem r75_238 (d : Nat) (st : List Value) (σ : am_St) (τ : Int64) (x : Nat) (v1 v2 v3 : Value) : am_run d 75 238 [.ref x, v1, v2, v3] st σ τ = am_run d 75 239 [.ref x, v1, v2, v3] (.ref x :: st) σ τ := rr_aload_n dX9_digest_238 rfl
theorem r75_239 (d : Nat) (st : List Value) (σ : am_St) (τ : Int64) (x : Int32) (v0 v1 v2 : Value) : am_run d 75 239 [v0, v1, v2, .int x] st σ τ = am_run d 75 240 [v0, v1, v2, .int x] (.int x :: st) σ τ := rr_iload_n dX9_digest_239 rfl
theorem r75_240 (d : Nat) (ls st : List Value) (σ : am_St) (τ : Int64) (k : Nat) (a0 : Int32) (hk : am_kc k = 9) (hc : am_cats st ≤ 8) : am_run (d + 1) 75 240 ls (.int a0 :: .ref k :: st) σ τ = (am_call d 74 [.ref k, .int a0] σ τ).bind (fun r => am_run (d + 1) 75 243 ls (r.1.toList ++ st) r.2.1 r.2.2) := rr_invv [.int a0] dX9_digest_240 (by decide +kernel) (by decide) rfl (Nat.le_of_ble_eq_true rfl) hk hc
theorem r75_243 (d : Nat) (ls st : List Value) (σ : am_St) (τ : Int64) (x : Int32) : am_run d 75 243 ls (.int x :: st) σ τ = am_run d 75 244 ls (.long x.toInt64 :: st) σ τ := rr_i2l dX9_digest_243
theorem r75_244 (d : Nat) (ls st : List Value) (σ : am_St) (τ : Int64) (x y : Int64) : am_run d 75 244 ls (.long y :: .long x :: st) σ τ = am_run d 75 245 ls (.long (x + y) :: st) σ τ := rr_ladd dX9_digest_244
theorem r75_245 (d : Nat) (st : List Value) (σ : am_St) (τ : Int64) (x : Int64) (v0 v1 v2 v3 : Value) : am_run d 75 245 [v0, v1, v2, v3] (.long x :: st) σ τ = am_run d 75 246 [am_nl v0, .long x, .null, v3] st σ τ := rr_lstore_n _ dX9_digest_245 (by decide) (by first | rfl | (by_cases h : v0.category = 2 <;> simp [am_set2, am_set1, am_nl, h]))
theorem r75_246 (d : Nat) (st : List Value) (σ : am_St) (τ : Int64) (x : Int32) (v0 v1 v2 : Value) : am_run d 75 246 [v0, v1, v2, .int x] st σ τ = am_run d 75 249 [v0, v1, am_nl v2, .int (x + 1)] st σ τ := rr_iinc 1 _ dX9_digest_246 rfl (by decide) (by decide) (by first | rfl | (by_cases h : v2.category = 2 <;> simp [am_set1, am_nl, h]))
theorem r75_249 (d : Nat) (ls st : List Value) (σ : am_St) (τ : Int64) : am_run d 75 249 ls st σ τ = am_run d 75 227 ls st σ τ := rr_goto 227 dX9_digest_249 (by decide)
theorem r75_252 (d : Nat) (st : List Value) (σ : am_St) (τ : Int64) (x : Int64) (v0 v2 v3 : Value) : am_run d 75 252 [v0, .long x, v2, v3] st σ τ = am_run d 75 253 [v0, .long x, v2, v3] (.long x :: st) σ τ := rr_lload_n dX9_digest_252 rfl
theorem r75_253 (d : Nat) (ls : List Value) (σ : am_St) (τ : Int64) (x : Int64) : am_run d 75 253 ls [.long x] σ τ = some (some (.long x), σ, τ) := rr_lret dX9_digest_253 rfl
theorem dX9_digestOfPerson_0 : decode (am_code 76) 0 = .ok (.lload_n 1, 1) := by decide +kernel
theorem dX9_digestOfPerson_1 : decode (am_code 76) 1 = .ok (.lstore 4, 2) := by decide +kernel
theorem dX9_digestOfPerson_3 : decode (am_code 76) 3 = .ok (.iconst 0, 1) := by decide +kernel
theorem dX9_digestOfPerson_4 : decode (am_code 76) 4 = .ok (.istore 6, 2) := by decide +kernel
theorem dX9_digestOfPerson_6 : decode (am_code 76) 6 = .ok (.iload 6, 2) := by decide +kernel
theorem dX9_digestOfPerson_8 : decode (am_code 76) 8 = .ok (.bipush 8, 2) := by decide +kernel
theorem dX9_digestOfPerson_10 : decode (am_code 76) 10 = .ok (.if_icmp .ge 26, 3) := by decide +kernel
theorem dX9_digestOfPerson_13 : decode (am_code 76) 13 = .ok (.ldc2_w 255, 3) := by decide +kernel
theorem dX9_digestOfPerson_16 : decode (am_code 76) 16 = .ok (.lload 4, 2) := by decide +kernel
theorem dX9_digestOfPerson_18 : decode (am_code 76) 18 = .ok (.lmul, 1) := by decide +kernel
theorem dX9_digestOfPerson_19 : decode (am_code 76) 19 = .ok (.aload_n 0, 1) := by decide +kernel
theorem dX9_digestOfPerson_20 : decode (am_code 76) 20 = .ok (.iload_n 3, 1) := by decide +kernel
theorem dX9_digestOfPerson_21 : decode (am_code 76) 21 = .ok (.iload 6, 2) := by decide +kernel
theorem dX9_digestOfPerson_23 : decode (am_code 76) 23 = .ok (.invokevirtual 270, 3) := by decide +kernel
theorem dX9_digestOfPerson_26 : decode (am_code 76) 26 = .ok (.i2l, 1) := by decide +kernel
theorem dX9_digestOfPerson_27 : decode (am_code 76) 27 = .ok (.ladd, 1) := by decide +kernel
theorem dX9_digestOfPerson_28 : decode (am_code 76) 28 = .ok (.lstore 4, 2) := by decide +kernel
theorem dX9_digestOfPerson_30 : decode (am_code 76) 30 = .ok (.iinc 6 1, 3) := by decide +kernel
theorem dX9_digestOfPerson_33 : decode (am_code 76) 33 = .ok (.goto (-27), 3) := by decide +kernel
theorem dX9_digestOfPerson_36 : decode (am_code 76) 36 = .ok (.ldc2_w 255, 3) := by decide +kernel
theorem dX9_digestOfPerson_39 : decode (am_code 76) 39 = .ok (.lload 4, 2) := by decide +kernel
theorem dX9_digestOfPerson_41 : decode (am_code 76) 41 = .ok (.lmul, 1) := by decide +kernel
theorem dX9_digestOfPerson_42 : decode (am_code 76) 42 = .ok (.aload_n 0, 1) := by decide +kernel
theorem dX9_digestOfPerson_43 : decode (am_code 76) 43 = .ok (.getfield 28, 3) := by decide +kernel
theorem dX9_digestOfPerson_46 : decode (am_code 76) 46 = .ok (.iload_n 3, 1) := by decide +kernel
theorem dX9_digestOfPerson_47 : decode (am_code 76) 47 = .ok (.invokevirtual 222, 3) := by decide +kernel
theorem dX9_digestOfPerson_50 : decode (am_code 76) 50 = .ok (.i2l, 1) := by decide +kernel
theorem dX9_digestOfPerson_51 : decode (am_code 76) 51 = .ok (.ladd, 1) := by decide +kernel
theorem dX9_digestOfPerson_52 : decode (am_code 76) 52 = .ok (.lstore 4, 2) := by decide +kernel
theorem dX9_digestOfPerson_54 : decode (am_code 76) 54 = .ok (.ldc2_w 255, 3) := by decide +kernel
theorem dX9_digestOfPerson_57 : decode (am_code 76) 57 = .ok (.lload 4, 2) := by decide +kernel
theorem dX9_digestOfPerson_59 : decode (am_code 76) 59 = .ok (.lmul, 1) := by decide +kernel
theorem dX9_digestOfPerson_60 : decode (am_code 76) 60 = .ok (.aload_n 0, 1) := by decide +kernel
theorem dX9_digestOfPerson_61 : decode (am_code 76) 61 = .ok (.getfield 53, 3) := by decide +kernel
theorem dX9_digestOfPerson_64 : decode (am_code 76) 64 = .ok (.getfield 210, 3) := by decide +kernel
theorem dX9_digestOfPerson_67 : decode (am_code 76) 67 = .ok (.iload_n 3, 1) := by decide +kernel
theorem dX9_digestOfPerson_68 : decode (am_code 76) 68 = .ok (.iaload, 1) := by decide +kernel
theorem dX9_digestOfPerson_69 : decode (am_code 76) 69 = .ok (.i2l, 1) := by decide +kernel
theorem dX9_digestOfPerson_70 : decode (am_code 76) 70 = .ok (.ladd, 1) := by decide +kernel
theorem dX9_digestOfPerson_71 : decode (am_code 76) 71 = .ok (.lstore 4, 2) := by decide +kernel
theorem dX9_digestOfPerson_73 : decode (am_code 76) 73 = .ok (.ldc2_w 255, 3) := by decide +kernel
theorem dX9_digestOfPerson_76 : decode (am_code 76) 76 = .ok (.lload 4, 2) := by decide +kernel
theorem dX9_digestOfPerson_78 : decode (am_code 76) 78 = .ok (.lmul, 1) := by decide +kernel
theorem dX9_digestOfPerson_79 : decode (am_code 76) 79 = .ok (.aload_n 0, 1) := by decide +kernel
theorem dX9_digestOfPerson_80 : decode (am_code 76) 80 = .ok (.getfield 67, 3) := by decide +kernel
theorem dX9_digestOfPerson_83 : decode (am_code 76) 83 = .ok (.getfield 234, 3) := by decide +kernel
theorem dX9_digestOfPerson_86 : decode (am_code 76) 86 = .ok (.iload_n 3, 1) := by decide +kernel
theorem dX9_digestOfPerson_87 : decode (am_code 76) 87 = .ok (.iaload, 1) := by decide +kernel
theorem dX9_digestOfPerson_88 : decode (am_code 76) 88 = .ok (.i2l, 1) := by decide +kernel
theorem dX9_digestOfPerson_89 : decode (am_code 76) 89 = .ok (.ladd, 1) := by decide +kernel
theorem dX9_digestOfPerson_90 : decode (am_code 76) 90 = .ok (.lreturn, 1) := by decide +kernel
theorem r76_0 (d : Nat) (st : List Value) (σ : am_St) (τ : Int64) (x : Int64) (v0 v2 v3 v4 v5 v6 : Value) : am_run d 76 0 [v0, .long x, v2, v3, v4, v5, v6] st σ τ = am_run d 76 1 [v0, .long x, v2, v3, v4, v5, v6] (.long x :: st) σ τ := rr_lload_n dX9_digestOfPerson_0 rfl
theorem r76_1 (d : Nat) (st : List Value) (σ : am_St) (τ : Int64) (x : Int64) (v0 v1 v2 v3 v4 v5 v6 : Value) : am_run d 76 1 [v0, v1, v2, v3, v4, v5, v6] (.long x :: st) σ τ = am_run d 76 3 [v0, v1, v2, am_nl v3, .long x, .null, v6] st σ τ := rr_lstore _ dX9_digestOfPerson_1 (by decide) (by first | rfl | (by_cases h : v3.category = 2 <;> simp [am_set2, am_set1, am_nl, h]))
theorem r76_3 (d : Nat) (ls st : List Value) (σ : am_St) (τ : Int64) : am_run d 76 3 ls st σ τ = am_run d 76 4 ls (.int 0 :: st) σ τ := rr_iconst 0 dX9_digestOfPerson_3 (by decide)
theorem r76_4 (d : Nat) (st : List Value) (σ : am_St) (τ : Int64) (x : Int32) (v0 v1 v2 v3 v4 v5 v6 : Value) : am_run d 76 4 [v0, v1, v2, v3, v4, v5, v6] (.int x :: st) σ τ = am_run d 76 6 [v0, v1, v2, v3, v4, am_nl v5, .int x] st σ τ := rr_istore _ dX9_digestOfPerson_4 (by decide) (by first | rfl | (by_cases h : v5.category = 2 <;> simp [am_set1, am_nl, h]))
theorem r76_6 (d : Nat) (st : List Value) (σ : am_St) (τ : Int64) (x : Int32) (v0 v1 v2 v3 v4 v5 : Value) : am_run d 76 6 [v0, v1, v2, v3, v4, v5, .int x] st σ τ = am_run d 76 8 [v0, v1, v2, v3, v4, v5, .int x] (.int x :: st) σ τ := rr_iload dX9_digestOfPerson_6 rfl
theorem r76_8 (d : Nat) (ls st : List Value) (σ : am_St) (τ : Int64) : am_run d 76 8 ls st σ τ = am_run d 76 10 ls (.int 8 :: st) σ τ := rr_bipush 8 dX9_digestOfPerson_8 (by decide)
theorem r76_10 (d : Nat) (ls st : List Value) (σ : am_St) (τ : Int64) (x y : Int32) : am_run d 76 10 ls (.int y :: .int x :: st) σ τ = if y ≤ x then am_run d 76 36 ls st σ τ else am_run d 76 13 ls st σ τ := (rr_icmp 36 dX9_digestOfPerson_10 (by decide)).trans am_sel
theorem r76_13 (d : Nat) (ls st : List Value) (σ : am_St) (τ : Int64) : am_run d 76 13 ls st σ τ = am_run d 76 16 ls (.long 31 :: st) σ τ := rr_ldc2 31 dX9_digestOfPerson_13 (by decide +kernel)
theorem r76_16 (d : Nat) (st : List Value) (σ : am_St) (τ : Int64) (x : Int64) (v0 v1 v2 v3 v5 v6 : Value) : am_run d 76 16 [v0, v1, v2, v3, .long x, v5, v6] st σ τ = am_run d 76 18 [v0, v1, v2, v3, .long x, v5, v6] (.long x :: st) σ τ := rr_lload dX9_digestOfPerson_16 rfl
theorem r76_18 (d : Nat) (ls st : List Value) (σ : am_St) (τ : Int64) (x y : Int64) : am_run d 76 18 ls (.long y :: .long x :: st) σ τ = am_run d 76 19 ls (.long (x * y) :: st) σ τ := rr_lmul dX9_digestOfPerson_18
theorem r76_19 (d : Nat) (st : List Value) (σ : am_St) (τ : Int64) (x : Nat) (v1 v2 v3 v4 v5 v6 : Value) : am_run d 76 19 [.ref x, v1, v2, v3, v4, v5, v6] st σ τ = am_run d 76 20 [.ref x, v1, v2, v3, v4, v5, v6] (.ref x :: st) σ τ := rr_aload_n dX9_digestOfPerson_19 rfl
theorem r76_20 (d : Nat) (st : List Value) (σ : am_St) (τ : Int64) (x : Int32) (v0 v1 v2 v4 v5 v6 : Value) : am_run d 76 20 [v0, v1, v2, .int x, v4, v5, v6] st σ τ = am_run d 76 21 [v0, v1, v2, .int x, v4, v5, v6] (.int x :: st) σ τ := rr_iload_n dX9_digestOfPerson_20 rfl
theorem r76_21 (d : Nat) (st : List Value) (σ : am_St) (τ : Int64) (x : Int32) (v0 v1 v2 v3 v4 v5 : Value) : am_run d 76 21 [v0, v1, v2, v3, v4, v5, .int x] st σ τ = am_run d 76 23 [v0, v1, v2, v3, v4, v5, .int x] (.int x :: st) σ τ := rr_iload dX9_digestOfPerson_21 rfl
theorem r76_23 (d : Nat) (ls st : List Value) (σ : am_St) (τ : Int64) (k : Nat) (a0 : Int32) (a1 : Int32) (hk : am_kc k = 9) (hc : am_cats st ≤ 8) : am_run (d + 1) 76 23 ls (.int a1 :: .int a0 :: .ref k :: st) σ τ = (am_call d 57 [.ref k, .int a0, .int a1] σ τ).bind (fun r => am_run (d + 1) 76 26 ls (r.1.toList ++ st) r.2.1 r.2.2) := rr_invv [.int a0, .int a1] dX9_digestOfPerson_23 (by decide +kernel) (by decide) rfl (Nat.le_of_ble_eq_true rfl) hk hc
theorem r76_26 (d : Nat) (ls st : List Value) (σ : am_St) (τ : Int64) (x : Int32) : am_run d 76 26 ls (.int x :: st) σ τ = am_run d 76 27 ls (.long x.toInt64 :: st) σ τ := rr_i2l dX9_digestOfPerson_26
theorem r76_27 (d : Nat) (ls st : List Value) (σ : am_St) (τ : Int64) (x y : Int64) : am_run d 76 27 ls (.long y :: .long x :: st) σ τ = am_run d 76 28 ls (.long (x + y) :: st) σ τ := rr_ladd dX9_digestOfPerson_27
theorem r76_28 (d : Nat) (st : List Value) (σ : am_St) (τ : Int64) (x : Int64) (v0 v1 v2 v3 v4 v5 v6 : Value) : am_run d 76 28 [v0, v1, v2, v3, v4, v5, v6] (.long x :: st) σ τ = am_run d 76 30 [v0, v1, v2, am_nl v3, .long x, .null, v6] st σ τ := rr_lstore _ dX9_digestOfPerson_28 (by decide) (by first | rfl | (by_cases h : v3.category = 2 <;> simp [am_set2, am_set1, am_nl, h]))
theorem r76_30 (d : Nat) (st : List Value) (σ : am_St) (τ : Int64) (x : Int32) (v0 v1 v2 v3 v4 v5 : Value) : am_run d 76 30 [v0, v1, v2, v3, v4, v5, .int x] st σ τ = am_run d 76 33 [v0, v1, v2, v3, v4, am_nl v5, .int (x + 1)] st σ τ := rr_iinc 1 _ dX9_digestOfPerson_30 rfl (by decide) (by decide) (by first | rfl | (by_cases h : v5.category = 2 <;> simp [am_set1, am_nl, h]))
theorem r76_33 (d : Nat) (ls st : List Value) (σ : am_St) (τ : Int64) : am_run d 76 33 ls st σ τ = am_run d 76 6 ls st σ τ := rr_goto 6 dX9_digestOfPerson_33 (by decide)
theorem r76_36 (d : Nat) (ls st : List Value) (σ : am_St) (τ : Int64) : am_run d 76 36 ls st σ τ = am_run d 76 39 ls (.long 31 :: st) σ τ := rr_ldc2 31 dX9_digestOfPerson_36 (by decide +kernel)
theorem r76_39 (d : Nat) (st : List Value) (σ : am_St) (τ : Int64) (x : Int64) (v0 v1 v2 v3 v5 v6 : Value) : am_run d 76 39 [v0, v1, v2, v3, .long x, v5, v6] st σ τ = am_run d 76 41 [v0, v1, v2, v3, .long x, v5, v6] (.long x :: st) σ τ := rr_lload dX9_digestOfPerson_39 rfl
theorem r76_41 (d : Nat) (ls st : List Value) (σ : am_St) (τ : Int64) (x y : Int64) : am_run d 76 41 ls (.long y :: .long x :: st) σ τ = am_run d 76 42 ls (.long (x * y) :: st) σ τ := rr_lmul dX9_digestOfPerson_41
theorem r76_42 (d : Nat) (st : List Value) (σ : am_St) (τ : Int64) (x : Nat) (v1 v2 v3 v4 v5 v6 : Value) : am_run d 76 42 [.ref x, v1, v2, v3, v4, v5, v6] st σ τ = am_run d 76 43 [.ref x, v1, v2, v3, v4, v5, v6] (.ref x :: st) σ τ := rr_aload_n dX9_digestOfPerson_42 rfl
theorem r76_43 (d : Nat) (ls st : List Value) (σ : am_St) (τ : Int64) (k : Nat) : am_run d 76 43 ls (.ref k :: st) σ τ = am_gf k 9 2 σ τ (fun v => am_run d 76 46 ls (v :: st) σ τ) := rr_getf dX9_digestOfPerson_43 (by decide +kernel)
theorem r76_46 (d : Nat) (st : List Value) (σ : am_St) (τ : Int64) (x : Int32) (v0 v1 v2 v4 v5 v6 : Value) : am_run d 76 46 [v0, v1, v2, .int x, v4, v5, v6] st σ τ = am_run d 76 47 [v0, v1, v2, .int x, v4, v5, v6] (.int x :: st) σ τ := rr_iload_n dX9_digestOfPerson_46 rfl
theorem r76_47 (d : Nat) (ls st : List Value) (σ : am_St) (τ : Int64) (k : Nat) (a0 : Int32) (hk : am_kc k = 1) (hc : am_cats st ≤ 8) : am_run (d + 1) 76 47 ls (.int a0 :: .ref k :: st) σ τ = (am_call d 19 [.ref k, .int a0] σ τ).bind (fun r => am_run (d + 1) 76 50 ls (r.1.toList ++ st) r.2.1 r.2.2) := rr_invv [.int a0] dX9_digestOfPerson_47 (by decide +kernel) (by decide) rfl (Nat.le_of_ble_eq_true rfl) hk hc
theorem r76_50 (d : Nat) (ls st : List Value) (σ : am_St) (τ : Int64) (x : Int32) : am_run d 76 50 ls (.int x :: st) σ τ = am_run d 76 51 ls (.long x.toInt64 :: st) σ τ := rr_i2l dX9_digestOfPerson_50
theorem r76_51 (d : Nat) (ls st : List Value) (σ : am_St) (τ : Int64) (x y : Int64) : am_run d 76 51 ls (.long y :: .long x :: st) σ τ = am_run d 76 52 ls (.long (x + y) :: st) σ τ := rr_ladd dX9_digestOfPerson_51
theorem r76_52 (d : Nat) (st : List Value) (σ : am_St) (τ : Int64) (x : Int64) (v0 v1 v2 v3 v4 v5 v6 : Value) : am_run d 76 52 [v0, v1, v2, v3, v4, v5, v6] (.long x :: st) σ τ = am_run d 76 54 [v0, v1, v2, am_nl v3, .long x, .null, v6] st σ τ := rr_lstore _ dX9_digestOfPerson_52 (by decide) (by first | rfl | (by_cases h : v3.category = 2 <;> simp [am_set2, am_set1, am_nl, h]))
theorem r76_54 (d : Nat) (ls st : List Value) (σ : am_St) (τ : Int64) : am_run d 76 54 ls st σ τ = am_run d 76 57 ls (.long 31 :: st) σ τ := rr_ldc2 31 dX9_digestOfPerson_54 (by decide +kernel)
theorem r76_57 (d : Nat) (st : List Value) (σ : am_St) (τ : Int64) (x : Int64) (v0 v1 v2 v3 v5 v6 : Value) : am_run d 76 57 [v0, v1, v2, v3, .long x, v5, v6] st σ τ = am_run d 76 59 [v0, v1, v2, v3, .long x, v5, v6] (.long x :: st) σ τ := rr_lload dX9_digestOfPerson_57 rfl
theorem r76_59 (d : Nat) (ls st : List Value) (σ : am_St) (τ : Int64) (x y : Int64) : am_run d 76 59 ls (.long y :: .long x :: st) σ τ = am_run d 76 60 ls (.long (x * y) :: st) σ τ := rr_lmul dX9_digestOfPerson_59
theorem r76_60 (d : Nat) (st : List Value) (σ : am_St) (τ : Int64) (x : Nat) (v1 v2 v3 v4 v5 v6 : Value) : am_run d 76 60 [.ref x, v1, v2, v3, v4, v5, v6] st σ τ = am_run d 76 61 [.ref x, v1, v2, v3, v4, v5, v6] (.ref x :: st) σ τ := rr_aload_n dX9_digestOfPerson_60 rfl
theorem r76_61 (d : Nat) (ls st : List Value) (σ : am_St) (τ : Int64) (k : Nat) : am_run d 76 61 ls (.ref k :: st) σ τ = am_gf k 9 5 σ τ (fun v => am_run d 76 64 ls (v :: st) σ τ) := rr_getf dX9_digestOfPerson_61 (by decide +kernel)
theorem r76_64 (d : Nat) (ls st : List Value) (σ : am_St) (τ : Int64) (k : Nat) : am_run d 76 64 ls (.ref k :: st) σ τ = am_gf k 2 1 σ τ (fun v => am_run d 76 67 ls (v :: st) σ τ) := rr_getf dX9_digestOfPerson_64 (by decide +kernel)
theorem r76_67 (d : Nat) (st : List Value) (σ : am_St) (τ : Int64) (x : Int32) (v0 v1 v2 v4 v5 v6 : Value) : am_run d 76 67 [v0, v1, v2, .int x, v4, v5, v6] st σ τ = am_run d 76 68 [v0, v1, v2, .int x, v4, v5, v6] (.int x :: st) σ τ := rr_iload_n dX9_digestOfPerson_67 rfl
theorem r76_68 (d : Nat) (ls st : List Value) (σ : am_St) (τ : Int64) (i : Int32) (k : Nat) : am_run d 76 68 ls (.int i :: .ref k :: st) σ τ = am_ai false k i (fun j => am_run d 76 69 ls (.int (σ k j) :: st) σ τ) := rr_iald dX9_digestOfPerson_68
theorem r76_69 (d : Nat) (ls st : List Value) (σ : am_St) (τ : Int64) (x : Int32) : am_run d 76 69 ls (.int x :: st) σ τ = am_run d 76 70 ls (.long x.toInt64 :: st) σ τ := rr_i2l dX9_digestOfPerson_69
theorem r76_70 (d : Nat) (ls st : List Value) (σ : am_St) (τ : Int64) (x y : Int64) : am_run d 76 70 ls (.long y :: .long x :: st) σ τ = am_run d 76 71 ls (.long (x + y) :: st) σ τ := rr_ladd dX9_digestOfPerson_70
theorem r76_71 (d : Nat) (st : List Value) (σ : am_St) (τ : Int64) (x : Int64) (v0 v1 v2 v3 v4 v5 v6 : Value) : am_run d 76 71 [v0, v1, v2, v3, v4, v5, v6] (.long x :: st) σ τ = am_run d 76 73 [v0, v1, v2, am_nl v3, .long x, .null, v6] st σ τ := rr_lstore _ dX9_digestOfPerson_71 (by decide) (by first | rfl | (by_cases h : v3.category = 2 <;> simp [am_set2, am_set1, am_nl, h]))
theorem r76_73 (d : Nat) (ls st : List Value) (σ : am_St) (τ : Int64) : am_run d 76 73 ls st σ τ = am_run d 76 76 ls (.long 31 :: st) σ τ := rr_ldc2 31 dX9_digestOfPerson_73 (by decide +kernel)
theorem r76_76 (d : Nat) (st : List Value) (σ : am_St) (τ : Int64) (x : Int64) (v0 v1 v2 v3 v5 v6 : Value) : am_run d 76 76 [v0, v1, v2, v3, .long x, v5, v6] st σ τ = am_run d 76 78 [v0, v1, v2, v3, .long x, v5, v6] (.long x :: st) σ τ := rr_lload dX9_digestOfPerson_76 rfl
theorem r76_78 (d : Nat) (ls st : List Value) (σ : am_St) (τ : Int64) (x y : Int64) : am_run d 76 78 ls (.long y :: .long x :: st) σ τ = am_run d 76 79 ls (.long (x * y) :: st) σ τ := rr_lmul dX9_digestOfPerson_78
theorem r76_79 (d : Nat) (st : List Value) (σ : am_St) (τ : Int64) (x : Nat) (v1 v2 v3 v4 v5 v6 : Value) : am_run d 76 79 [.ref x, v1, v2, v3, v4, v5, v6] st σ τ = am_run d 76 80 [.ref x, v1, v2, v3, v4, v5, v6] (.ref x :: st) σ τ := rr_aload_n dX9_digestOfPerson_79 rfl
theorem r76_80 (d : Nat) (ls st : List Value) (σ : am_St) (τ : Int64) (k : Nat) : am_run d 76 80 ls (.ref k :: st) σ τ = am_gf k 9 7 σ τ (fun v => am_run d 76 83 ls (v :: st) σ τ) := rr_getf dX9_digestOfPerson_80 (by decide +kernel)
theorem r76_83 (d : Nat) (ls st : List Value) (σ : am_St) (τ : Int64) (k : Nat) : am_run d 76 83 ls (.ref k :: st) σ τ = am_gf k 0 1 σ τ (fun v => am_run d 76 86 ls (v :: st) σ τ) := rr_getf dX9_digestOfPerson_83 (by decide +kernel)
theorem r76_86 (d : Nat) (st : List Value) (σ : am_St) (τ : Int64) (x : Int32) (v0 v1 v2 v4 v5 v6 : Value) : am_run d 76 86 [v0, v1, v2, .int x, v4, v5, v6] st σ τ = am_run d 76 87 [v0, v1, v2, .int x, v4, v5, v6] (.int x :: st) σ τ := rr_iload_n dX9_digestOfPerson_86 rfl
theorem r76_87 (d : Nat) (ls st : List Value) (σ : am_St) (τ : Int64) (i : Int32) (k : Nat) : am_run d 76 87 ls (.int i :: .ref k :: st) σ τ = am_ai false k i (fun j => am_run d 76 88 ls (.int (σ k j) :: st) σ τ) := rr_iald dX9_digestOfPerson_87
theorem r76_88 (d : Nat) (ls st : List Value) (σ : am_St) (τ : Int64) (x : Int32) : am_run d 76 88 ls (.int x :: st) σ τ = am_run d 76 89 ls (.long x.toInt64 :: st) σ τ := rr_i2l dX9_digestOfPerson_88
theorem r76_89 (d : Nat) (ls st : List Value) (σ : am_St) (τ : Int64) (x y : Int64) : am_run d 76 89 ls (.long y :: .long x :: st) σ τ = am_run d 76 90 ls (.long (x + y) :: st) σ τ := rr_ladd dX9_digestOfPerson_89
theorem r76_90 (d : Nat) (ls : List Value) (σ : am_St) (τ : Int64) (x : Int64) : am_run d 76 90 ls [.long x] σ τ = some (some (.long x), σ, τ) := rr_lret dX9_digestOfPerson_90 rfl
theorem dX9_nameAll_0 : decode (am_code 77) 0 = .ok (.aload_n 0, 1) := by decide +kernel
theorem dX9_nameAll_1 : decode (am_code 77) 1 = .ok (.getfield 37, 3) := by decide +kernel
theorem dX9_nameAll_4 : decode (am_code 77) 4 = .ok (.aload_n 0, 1) := by decide +kernel
theorem dX9_nameAll_5 : decode (am_code 77) 5 = .ok (.getfield 28, 3) := by decide +kernel
theorem dX9_nameAll_8 : decode (am_code 77) 8 = .ok (.getfield 157, 3) := by decide +kernel
theorem dX9_nameAll_11 : decode (am_code 77) 11 = .ok (.aload_n 0, 1) := by decide +kernel
theorem dX9_nameAll_12 : decode (am_code 77) 12 = .ok (.getfield 28, 3) := by decide +kernel
theorem dX9_nameAll_15 : decode (am_code 77) 15 = .ok (.getfield 178, 3) := by decide +kernel
theorem dX9_nameAll_18 : decode (am_code 77) 18 = .ok (.aload_n 0, 1) := by decide +kernel
theorem dX9_nameAll_19 : decode (am_code 77) 19 = .ok (.getfield 21, 3) := by decide +kernel
theorem dX9_nameAll_22 : decode (am_code 77) 22 = .ok (.invokevirtual 273, 3) := by decide +kernel
theorem dX9_nameAll_25 : decode (am_code 77) 25 = .ok (.return_, 1) := by decide +kernel
theorem r77_0 (d : Nat) (st : List Value) (σ : am_St) (τ : Int64) (x : Nat) : am_run d 77 0 [.ref x] st σ τ = am_run d 77 1 [.ref x] (.ref x :: st) σ τ := rr_aload_n dX9_nameAll_0 rfl
theorem r77_1 (d : Nat) (ls st : List Value) (σ : am_St) (τ : Int64) (k : Nat) : am_run d 77 1 ls (.ref k :: st) σ τ = am_gf k 9 3 σ τ (fun v => am_run d 77 4 ls (v :: st) σ τ) := rr_getf dX9_nameAll_1 (by decide +kernel)
theorem r77_4 (d : Nat) (st : List Value) (σ : am_St) (τ : Int64) (x : Nat) : am_run d 77 4 [.ref x] st σ τ = am_run d 77 5 [.ref x] (.ref x :: st) σ τ := rr_aload_n dX9_nameAll_4 rfl
theorem r77_5 (d : Nat) (ls st : List Value) (σ : am_St) (τ : Int64) (k : Nat) : am_run d 77 5 ls (.ref k :: st) σ τ = am_gf k 9 2 σ τ (fun v => am_run d 77 8 ls (v :: st) σ τ) := rr_getf dX9_nameAll_5 (by decide +kernel)
theorem r77_8 (d : Nat) (ls st : List Value) (σ : am_St) (τ : Int64) (k : Nat) : am_run d 77 8 ls (.ref k :: st) σ τ = am_gf k 1 3 σ τ (fun v => am_run d 77 11 ls (v :: st) σ τ) := rr_getf dX9_nameAll_8 (by decide +kernel)
theorem r77_11 (d : Nat) (st : List Value) (σ : am_St) (τ : Int64) (x : Nat) : am_run d 77 11 [.ref x] st σ τ = am_run d 77 12 [.ref x] (.ref x :: st) σ τ := rr_aload_n dX9_nameAll_11 rfl
theorem r77_12 (d : Nat) (ls st : List Value) (σ : am_St) (τ : Int64) (k : Nat) : am_run d 77 12 ls (.ref k :: st) σ τ = am_gf k 9 2 σ τ (fun v => am_run d 77 15 ls (v :: st) σ τ) := rr_getf dX9_nameAll_12 (by decide +kernel)
theorem r77_15 (d : Nat) (ls st : List Value) (σ : am_St) (τ : Int64) (k : Nat) : am_run d 77 15 ls (.ref k :: st) σ τ = am_gf k 1 7 σ τ (fun v => am_run d 77 18 ls (v :: st) σ τ) := rr_getf dX9_nameAll_15 (by decide +kernel)
theorem r77_18 (d : Nat) (st : List Value) (σ : am_St) (τ : Int64) (x : Nat) : am_run d 77 18 [.ref x] st σ τ = am_run d 77 19 [.ref x] (.ref x :: st) σ τ := rr_aload_n dX9_nameAll_18 rfl
theorem r77_19 (d : Nat) (ls st : List Value) (σ : am_St) (τ : Int64) (k : Nat) : am_run d 77 19 ls (.ref k :: st) σ τ = am_gf k 9 1 σ τ (fun v => am_run d 77 22 ls (v :: st) σ τ) := rr_getf dX9_nameAll_19 (by decide +kernel)
theorem r77_22 (d : Nat) (ls st : List Value) (σ : am_St) (τ : Int64) (k : Nat) (a0 : Nat) (a1 : Nat) (a2 : Nat) (hk : am_kc k = 7) (hc : am_cats st ≤ 8) : am_run (d + 1) 77 22 ls (.ref a2 :: .ref a1 :: .ref a0 :: .ref k :: st) σ τ = (am_call d 35 [.ref k, .ref a0, .ref a1, .ref a2] σ τ).bind (fun r => am_run (d + 1) 77 25 ls (r.1.toList ++ st) r.2.1 r.2.2) := rr_invv [.ref a0, .ref a1, .ref a2] dX9_nameAll_22 (by decide +kernel) (by decide) rfl (Nat.le_of_ble_eq_true rfl) hk hc
theorem r77_25 (d : Nat) (ls : List Value) (σ : am_St) (τ : Int64) : am_run d 77 25 ls [] σ τ = some (none, σ, τ) := rr_vret dX9_nameAll_25 rfl
theorem dX9_generationsOf_0 : decode (am_code 78) 0 = .ok (.iconst 0, 1) := by decide +kernel
theorem dX9_generationsOf_1 : decode (am_code 78) 1 = .ok (.istore_n 2, 1) := by decide +kernel
theorem dX9_generationsOf_2 : decode (am_code 78) 2 = .ok (.iconst 0, 1) := by decide +kernel
theorem dX9_generationsOf_3 : decode (am_code 78) 3 = .ok (.istore_n 3, 1) := by decide +kernel
theorem dX9_generationsOf_4 : decode (am_code 78) 4 = .ok (.iload_n 3, 1) := by decide +kernel
theorem dX9_generationsOf_5 : decode (am_code 78) 5 = .ok (.aload_n 0, 1) := by decide +kernel
theorem dX9_generationsOf_6 : decode (am_code 78) 6 = .ok (.getfield 28, 3) := by decide +kernel
theorem dX9_generationsOf_9 : decode (am_code 78) 9 = .ok (.getfield 134, 3) := by decide +kernel
theorem dX9_generationsOf_12 : decode (am_code 78) 12 = .ok (.if_icmp .ge 36, 3) := by decide +kernel
theorem dX9_generationsOf_15 : decode (am_code 78) 15 = .ok (.aload_n 0, 1) := by decide +kernel
theorem dX9_generationsOf_16 : decode (am_code 78) 16 = .ok (.getfield 37, 3) := by decide +kernel
theorem dX9_generationsOf_19 : decode (am_code 78) 19 = .ok (.getfield 163, 3) := by decide +kernel
theorem dX9_generationsOf_22 : decode (am_code 78) 22 = .ok (.iload_n 3, 1) := by decide +kernel
theorem dX9_generationsOf_23 : decode (am_code 78) 23 = .ok (.iaload, 1) := by decide +kernel
theorem dX9_generationsOf_24 : decode (am_code 78) 24 = .ok (.iload_n 1, 1) := by decide +kernel
theorem dX9_generationsOf_25 : decode (am_code 78) 25 = .ok (.if_icmp .ne 17, 3) := by decide +kernel
theorem dX9_generationsOf_28 : decode (am_code 78) 28 = .ok (.iload_n 2, 1) := by decide +kernel
theorem dX9_generationsOf_29 : decode (am_code 78) 29 = .ok (.iconst 1, 1) := by decide +kernel
theorem dX9_generationsOf_30 : decode (am_code 78) 30 = .ok (.aload_n 0, 1) := by decide +kernel
theorem dX9_generationsOf_31 : decode (am_code 78) 31 = .ok (.getfield 28, 3) := by decide +kernel
theorem dX9_generationsOf_34 : decode (am_code 78) 34 = .ok (.getfield 172, 3) := by decide +kernel
theorem dX9_generationsOf_37 : decode (am_code 78) 37 = .ok (.iload_n 3, 1) := by decide +kernel
theorem dX9_generationsOf_38 : decode (am_code 78) 38 = .ok (.iaload, 1) := by decide +kernel
theorem dX9_generationsOf_39 : decode (am_code 78) 39 = .ok (.ishl, 1) := by decide +kernel
theorem dX9_generationsOf_40 : decode (am_code 78) 40 = .ok (.ior, 1) := by decide +kernel
theorem dX9_generationsOf_41 : decode (am_code 78) 41 = .ok (.istore_n 2, 1) := by decide +kernel
theorem dX9_generationsOf_42 : decode (am_code 78) 42 = .ok (.iinc 3 1, 3) := by decide +kernel
theorem dX9_generationsOf_45 : decode (am_code 78) 45 = .ok (.goto (-41), 3) := by decide +kernel
theorem dX9_generationsOf_48 : decode (am_code 78) 48 = .ok (.iload_n 2, 1) := by decide +kernel
theorem dX9_generationsOf_49 : decode (am_code 78) 49 = .ok (.invokestatic 277, 3) := by decide +kernel
theorem dX9_generationsOf_52 : decode (am_code 78) 52 = .ok (.ireturn, 1) := by decide +kernel
theorem r78_0 (d : Nat) (ls st : List Value) (σ : am_St) (τ : Int64) : am_run d 78 0 ls st σ τ = am_run d 78 1 ls (.int 0 :: st) σ τ := rr_iconst 0 dX9_generationsOf_0 (by decide)
theorem r78_1 (d : Nat) (st : List Value) (σ : am_St) (τ : Int64) (x : Int32) (v0 v1 v2 v3 : Value) : am_run d 78 1 [v0, v1, v2, v3] (.int x :: st) σ τ = am_run d 78 2 [v0, am_nl v1, .int x, v3] st σ τ := rr_istore_n _ dX9_generationsOf_1 (by decide) (by first | rfl | (by_cases h : v1.category = 2 <;> simp [am_set1, am_nl, h]))
theorem r78_2 (d : Nat) (ls st : List Value) (σ : am_St) (τ : Int64) : am_run d 78 2 ls st σ τ = am_run d 78 3 ls (.int 0 :: st) σ τ := rr_iconst 0 dX9_generationsOf_2 (by decide)
theorem r78_3 (d : Nat) (st : List Value) (σ : am_St) (τ : Int64) (x : Int32) (v0 v1 v2 v3 : Value) : am_run d 78 3 [v0, v1, v2, v3] (.int x :: st) σ τ = am_run d 78 4 [v0, v1, am_nl v2, .int x] st σ τ := rr_istore_n _ dX9_generationsOf_3 (by decide) (by first | rfl | (by_cases h : v2.category = 2 <;> simp [am_set1, am_nl, h]))
theorem r78_4 (d : Nat) (st : List Value) (σ : am_St) (τ : Int64) (x : Int32) (v0 v1 v2 : Value) : am_run d 78 4 [v0, v1, v2, .int x] st σ τ = am_run d 78 5 [v0, v1, v2, .int x] (.int x :: st) σ τ := rr_iload_n dX9_generationsOf_4 rfl
theorem r78_5 (d : Nat) (st : List Value) (σ : am_St) (τ : Int64) (x : Nat) (v1 v2 v3 : Value) : am_run d 78 5 [.ref x, v1, v2, v3] st σ τ = am_run d 78 6 [.ref x, v1, v2, v3] (.ref x :: st) σ τ := rr_aload_n dX9_generationsOf_5 rfl
theorem r78_6 (d : Nat) (ls st : List Value) (σ : am_St) (τ : Int64) (k : Nat) : am_run d 78 6 ls (.ref k :: st) σ τ = am_gf k 9 2 σ τ (fun v => am_run d 78 9 ls (v :: st) σ τ) := rr_getf dX9_generationsOf_6 (by decide +kernel)
theorem r78_9 (d : Nat) (ls st : List Value) (σ : am_St) (τ : Int64) (k : Nat) : am_run d 78 9 ls (.ref k :: st) σ τ = am_gf k 1 0 σ τ (fun v => am_run d 78 12 ls (v :: st) σ τ) := rr_getf dX9_generationsOf_9 (by decide +kernel)
theorem r78_12 (d : Nat) (ls st : List Value) (σ : am_St) (τ : Int64) (x y : Int32) : am_run d 78 12 ls (.int y :: .int x :: st) σ τ = if y ≤ x then am_run d 78 48 ls st σ τ else am_run d 78 15 ls st σ τ := (rr_icmp 48 dX9_generationsOf_12 (by decide)).trans am_sel
theorem r78_15 (d : Nat) (st : List Value) (σ : am_St) (τ : Int64) (x : Nat) (v1 v2 v3 : Value) : am_run d 78 15 [.ref x, v1, v2, v3] st σ τ = am_run d 78 16 [.ref x, v1, v2, v3] (.ref x :: st) σ τ := rr_aload_n dX9_generationsOf_15 rfl
theorem r78_16 (d : Nat) (ls st : List Value) (σ : am_St) (τ : Int64) (k : Nat) : am_run d 78 16 ls (.ref k :: st) σ τ = am_gf k 9 3 σ τ (fun v => am_run d 78 19 ls (v :: st) σ τ) := rr_getf dX9_generationsOf_16 (by decide +kernel)
theorem r78_19 (d : Nat) (ls st : List Value) (σ : am_St) (τ : Int64) (k : Nat) : am_run d 78 19 ls (.ref k :: st) σ τ = am_gf k 7 0 σ τ (fun v => am_run d 78 22 ls (v :: st) σ τ) := rr_getf dX9_generationsOf_19 (by decide +kernel)
theorem r78_22 (d : Nat) (st : List Value) (σ : am_St) (τ : Int64) (x : Int32) (v0 v1 v2 : Value) : am_run d 78 22 [v0, v1, v2, .int x] st σ τ = am_run d 78 23 [v0, v1, v2, .int x] (.int x :: st) σ τ := rr_iload_n dX9_generationsOf_22 rfl
theorem r78_23 (d : Nat) (ls st : List Value) (σ : am_St) (τ : Int64) (i : Int32) (k : Nat) : am_run d 78 23 ls (.int i :: .ref k :: st) σ τ = am_ai false k i (fun j => am_run d 78 24 ls (.int (σ k j) :: st) σ τ) := rr_iald dX9_generationsOf_23
theorem r78_24 (d : Nat) (st : List Value) (σ : am_St) (τ : Int64) (x : Int32) (v0 v2 v3 : Value) : am_run d 78 24 [v0, .int x, v2, v3] st σ τ = am_run d 78 25 [v0, .int x, v2, v3] (.int x :: st) σ τ := rr_iload_n dX9_generationsOf_24 rfl
theorem r78_25 (d : Nat) (ls st : List Value) (σ : am_St) (τ : Int64) (x y : Int32) : am_run d 78 25 ls (.int y :: .int x :: st) σ τ = if x = y then am_run d 78 28 ls st σ τ else am_run d 78 42 ls st σ τ := (rr_icmp 42 dX9_generationsOf_25 (by decide)).trans am_seln
theorem r78_28 (d : Nat) (st : List Value) (σ : am_St) (τ : Int64) (x : Int32) (v0 v1 v3 : Value) : am_run d 78 28 [v0, v1, .int x, v3] st σ τ = am_run d 78 29 [v0, v1, .int x, v3] (.int x :: st) σ τ := rr_iload_n dX9_generationsOf_28 rfl
theorem r78_29 (d : Nat) (ls st : List Value) (σ : am_St) (τ : Int64) : am_run d 78 29 ls st σ τ = am_run d 78 30 ls (.int 1 :: st) σ τ := rr_iconst 1 dX9_generationsOf_29 (by decide)
theorem r78_30 (d : Nat) (st : List Value) (σ : am_St) (τ : Int64) (x : Nat) (v1 v2 v3 : Value) : am_run d 78 30 [.ref x, v1, v2, v3] st σ τ = am_run d 78 31 [.ref x, v1, v2, v3] (.ref x :: st) σ τ := rr_aload_n dX9_generationsOf_30 rfl
theorem r78_31 (d : Nat) (ls st : List Value) (σ : am_St) (τ : Int64) (k : Nat) : am_run d 78 31 ls (.ref k :: st) σ τ = am_gf k 9 2 σ τ (fun v => am_run d 78 34 ls (v :: st) σ τ) := rr_getf dX9_generationsOf_31 (by decide +kernel)
theorem r78_34 (d : Nat) (ls st : List Value) (σ : am_St) (τ : Int64) (k : Nat) : am_run d 78 34 ls (.ref k :: st) σ τ = am_gf k 1 6 σ τ (fun v => am_run d 78 37 ls (v :: st) σ τ) := rr_getf dX9_generationsOf_34 (by decide +kernel)
theorem r78_37 (d : Nat) (st : List Value) (σ : am_St) (τ : Int64) (x : Int32) (v0 v1 v2 : Value) : am_run d 78 37 [v0, v1, v2, .int x] st σ τ = am_run d 78 38 [v0, v1, v2, .int x] (.int x :: st) σ τ := rr_iload_n dX9_generationsOf_37 rfl
theorem r78_38 (d : Nat) (ls st : List Value) (σ : am_St) (τ : Int64) (i : Int32) (k : Nat) : am_run d 78 38 ls (.int i :: .ref k :: st) σ τ = am_ai false k i (fun j => am_run d 78 39 ls (.int (σ k j) :: st) σ τ) := rr_iald dX9_generationsOf_38
theorem r78_39 (d : Nat) (ls st : List Value) (σ : am_St) (τ : Int64) (x y : Int32) : am_run d 78 39 ls (.int y :: .int x :: st) σ τ = am_run d 78 40 ls (.int (x <<< (y &&& 31)) :: st) σ τ := rr_ishl dX9_generationsOf_39
theorem r78_40 (d : Nat) (ls st : List Value) (σ : am_St) (τ : Int64) (x y : Int32) : am_run d 78 40 ls (.int y :: .int x :: st) σ τ = am_run d 78 41 ls (.int (x ||| y) :: st) σ τ := rr_ior dX9_generationsOf_40
theorem r78_41 (d : Nat) (st : List Value) (σ : am_St) (τ : Int64) (x : Int32) (v0 v1 v2 v3 : Value) : am_run d 78 41 [v0, v1, v2, v3] (.int x :: st) σ τ = am_run d 78 42 [v0, am_nl v1, .int x, v3] st σ τ := rr_istore_n _ dX9_generationsOf_41 (by decide) (by first | rfl | (by_cases h : v1.category = 2 <;> simp [am_set1, am_nl, h]))
theorem r78_42 (d : Nat) (st : List Value) (σ : am_St) (τ : Int64) (x : Int32) (v0 v1 v2 : Value) : am_run d 78 42 [v0, v1, v2, .int x] st σ τ = am_run d 78 45 [v0, v1, am_nl v2, .int (x + 1)] st σ τ := rr_iinc 1 _ dX9_generationsOf_42 rfl (by decide) (by decide) (by first | rfl | (by_cases h : v2.category = 2 <;> simp [am_set1, am_nl, h]))
theorem r78_45 (d : Nat) (ls st : List Value) (σ : am_St) (τ : Int64) : am_run d 78 45 ls st σ τ = am_run d 78 4 ls st σ τ := rr_goto 4 dX9_generationsOf_45 (by decide)
theorem r78_48 (d : Nat) (st : List Value) (σ : am_St) (τ : Int64) (x : Int32) (v0 v1 v3 : Value) : am_run d 78 48 [v0, v1, .int x, v3] st σ τ = am_run d 78 49 [v0, v1, .int x, v3] (.int x :: st) σ τ := rr_iload_n dX9_generationsOf_48 rfl
theorem r78_49 (d : Nat) (ls st : List Value) (σ : am_St) (τ : Int64) (a0 : Int32) (hc : am_cats st ≤ 8) : am_run (d + 1) 78 49 ls (.int a0 :: st) σ τ = (am_call d 142 [.int a0] σ τ).bind (fun r => am_run (d + 1) 78 52 ls (r.1.toList ++ st) r.2.1 r.2.2) := rr_invs [.int a0] dX9_generationsOf_49 (by decide +kernel) (by decide +kernel) (by decide) rfl (Nat.le_of_ble_eq_true rfl) hc
theorem r78_52 (d : Nat) (ls : List Value) (σ : am_St) (τ : Int64) (x : Int32) : am_run d 78 52 ls [.int x] σ τ = some (some (.int x), σ, τ) := rr_iret dX9_generationsOf_52 rfl
theorem dX9_byteOf_0 : decode (am_code 79) 0 = .ok (.lload_n 0, 1) := by decide +kernel
theorem dX9_byteOf_1 : decode (am_code 79) 1 = .ok (.bipush 8, 2) := by decide +kernel
theorem dX9_byteOf_3 : decode (am_code 79) 3 = .ok (.iload_n 2, 1) := by decide +kernel
theorem dX9_byteOf_4 : decode (am_code 79) 4 = .ok (.imul, 1) := by decide +kernel
theorem dX9_byteOf_5 : decode (am_code 79) 5 = .ok (.lushr, 1) := by decide +kernel
theorem dX9_byteOf_6 : decode (am_code 79) 6 = .ok (.l2i, 1) := by decide +kernel
theorem dX9_byteOf_7 : decode (am_code 79) 7 = .ok (.sipush 255, 3) := by decide +kernel
theorem dX9_byteOf_10 : decode (am_code 79) 10 = .ok (.iand, 1) := by decide +kernel
theorem dX9_byteOf_11 : decode (am_code 79) 11 = .ok (.ireturn, 1) := by decide +kernel
theorem r79_0 (d : Nat) (st : List Value) (σ : am_St) (τ : Int64) (x : Int64) (v1 v2 : Value) : am_run d 79 0 [.long x, v1, v2] st σ τ = am_run d 79 1 [.long x, v1, v2] (.long x :: st) σ τ := rr_lload_n dX9_byteOf_0 rfl
theorem r79_1 (d : Nat) (ls st : List Value) (σ : am_St) (τ : Int64) : am_run d 79 1 ls st σ τ = am_run d 79 3 ls (.int 8 :: st) σ τ := rr_bipush 8 dX9_byteOf_1 (by decide)
theorem r79_3 (d : Nat) (st : List Value) (σ : am_St) (τ : Int64) (x : Int32) (v0 v1 : Value) : am_run d 79 3 [v0, v1, .int x] st σ τ = am_run d 79 4 [v0, v1, .int x] (.int x :: st) σ τ := rr_iload_n dX9_byteOf_3 rfl
theorem r79_4 (d : Nat) (ls st : List Value) (σ : am_St) (τ : Int64) (x y : Int32) : am_run d 79 4 ls (.int y :: .int x :: st) σ τ = am_run d 79 5 ls (.int (x * y) :: st) σ τ := rr_imul dX9_byteOf_4
theorem r79_5 (d : Nat) (ls st : List Value) (σ : am_St) (τ : Int64) (x : Int64) (y : Int32) : am_run d 79 5 ls (.int y :: .long x :: st) σ τ = am_run d 79 6 ls (.long (x.toUInt64 >>> (y.toInt64.toUInt64 &&& Int64.toUInt64 63)).toInt64 :: st) σ τ := rr_lushr dX9_byteOf_5
theorem r79_6 (d : Nat) (ls st : List Value) (σ : am_St) (τ : Int64) (x : Int64) : am_run d 79 6 ls (.long x :: st) σ τ = am_run d 79 7 ls (.int x.toInt32 :: st) σ τ := rr_l2i dX9_byteOf_6
theorem r79_7 (d : Nat) (ls st : List Value) (σ : am_St) (τ : Int64) : am_run d 79 7 ls st σ τ = am_run d 79 10 ls (.int 255 :: st) σ τ := rr_sipush 255 dX9_byteOf_7 (by decide)
theorem r79_10 (d : Nat) (ls st : List Value) (σ : am_St) (τ : Int64) (x y : Int32) : am_run d 79 10 ls (.int y :: .int x :: st) σ τ = am_run d 79 11 ls (.int (x &&& y) :: st) σ τ := rr_iand dX9_byteOf_10
theorem r79_11 (d : Nat) (ls : List Value) (σ : am_St) (τ : Int64) (x : Int32) : am_run d 79 11 ls [.int x] σ τ = some (some (.int x), σ, τ) := rr_iret dX9_byteOf_11 rfl
theorem dX9_isKind_0 : decode (am_code 80) 0 = .ok (.iload_n 0, 1) := by decide +kernel
theorem dX9_isKind_1 : decode (am_code 80) 1 = .ok (.ifCond .lt 12, 3) := by decide +kernel
theorem dX9_isKind_4 : decode (am_code 80) 4 = .ok (.iload_n 0, 1) := by decide +kernel
theorem dX9_isKind_5 : decode (am_code 80) 5 = .ok (.iconst 4, 1) := by decide +kernel
theorem dX9_isKind_6 : decode (am_code 80) 6 = .ok (.if_icmp .gt 7, 3) := by decide +kernel
theorem dX9_isKind_9 : decode (am_code 80) 9 = .ok (.iconst 1, 1) := by decide +kernel
theorem dX9_isKind_10 : decode (am_code 80) 10 = .ok (.goto 4, 3) := by decide +kernel
theorem dX9_isKind_13 : decode (am_code 80) 13 = .ok (.iconst 0, 1) := by decide +kernel
theorem dX9_isKind_14 : decode (am_code 80) 14 = .ok (.ireturn, 1) := by decide +kernel
theorem r80_0 (d : Nat) (st : List Value) (σ : am_St) (τ : Int64) (x : Int32) : am_run d 80 0 [.int x] st σ τ = am_run d 80 1 [.int x] (.int x :: st) σ τ := rr_iload_n dX9_isKind_0 rfl
theorem r80_1 (d : Nat) (ls st : List Value) (σ : am_St) (τ : Int64) (x : Int32) : am_run d 80 1 ls (.int x :: st) σ τ = if x < 0 then am_run d 80 13 ls st σ τ else am_run d 80 4 ls st σ τ := (rr_if 13 dX9_isKind_1 (by decide)).trans am_sel
theorem r80_4 (d : Nat) (st : List Value) (σ : am_St) (τ : Int64) (x : Int32) : am_run d 80 4 [.int x] st σ τ = am_run d 80 5 [.int x] (.int x :: st) σ τ := rr_iload_n dX9_isKind_4 rfl
theorem r80_5 (d : Nat) (ls st : List Value) (σ : am_St) (τ : Int64) : am_run d 80 5 ls st σ τ = am_run d 80 6 ls (.int 4 :: st) σ τ := rr_iconst 4 dX9_isKind_5 (by decide)
theorem r80_6 (d : Nat) (ls st : List Value) (σ : am_St) (τ : Int64) (x y : Int32) : am_run d 80 6 ls (.int y :: .int x :: st) σ τ = if y < x then am_run d 80 13 ls st σ τ else am_run d 80 9 ls st σ τ := (rr_icmp 13 dX9_isKind_6 (by decide)).trans am_sel
theorem r80_9 (d : Nat) (ls st : List Value) (σ : am_St) (τ : Int64) : am_run d 80 9 ls st σ τ = am_run d 80 10 ls (.int 1 :: st) σ τ := rr_iconst 1 dX9_isKind_9 (by decide)
theorem r80_10 (d : Nat) (ls st : List Value) (σ : am_St) (τ : Int64) : am_run d 80 10 ls st σ τ = am_run d 80 14 ls st σ τ := rr_goto 14 dX9_isKind_10 (by decide)
theorem r80_13 (d : Nat) (ls st : List Value) (σ : am_St) (τ : Int64) : am_run d 80 13 ls st σ τ = am_run d 80 14 ls (.int 0 :: st) σ τ := rr_iconst 0 dX9_isKind_13 (by decide)
theorem r80_14 (d : Nat) (ls : List Value) (σ : am_St) (τ : Int64) (x : Int32) (hx : x = 0 ∨ x = 1) : am_run d 80 14 ls [.int x] σ τ = some (some (.int x), σ, τ) := rr_zret dX9_isKind_14 rfl hx
theorem dX9_isName_0 : decode (am_code 81) 0 = .ok (.iload_n 0, 1) := by decide +kernel
theorem dX9_isName_1 : decode (am_code 81) 1 = .ok (.ifCond .lt 13, 3) := by decide +kernel
theorem dX9_isName_4 : decode (am_code 81) 4 = .ok (.iload_n 0, 1) := by decide +kernel
theorem dX9_isName_5 : decode (am_code 81) 5 = .ok (.bipush 6, 2) := by decide +kernel
theorem dX9_isName_7 : decode (am_code 81) 7 = .ok (.if_icmp .ge 7, 3) := by decide +kernel
theorem dX9_isName_10 : decode (am_code 81) 10 = .ok (.iconst 1, 1) := by decide +kernel
theorem dX9_isName_11 : decode (am_code 81) 11 = .ok (.goto 4, 3) := by decide +kernel
theorem dX9_isName_14 : decode (am_code 81) 14 = .ok (.iconst 0, 1) := by decide +kernel
theorem dX9_isName_15 : decode (am_code 81) 15 = .ok (.ireturn, 1) := by decide +kernel
theorem r81_0 (d : Nat) (st : List Value) (σ : am_St) (τ : Int64) (x : Int32) : am_run d 81 0 [.int x] st σ τ = am_run d 81 1 [.int x] (.int x :: st) σ τ := rr_iload_n dX9_isName_0 rfl
theorem r81_1 (d : Nat) (ls st : List Value) (σ : am_St) (τ : Int64) (x : Int32) : am_run d 81 1 ls (.int x :: st) σ τ = if x < 0 then am_run d 81 14 ls st σ τ else am_run d 81 4 ls st σ τ := (rr_if 14 dX9_isName_1 (by decide)).trans am_sel
theorem r81_4 (d : Nat) (st : List Value) (σ : am_St) (τ : Int64) (x : Int32) : am_run d 81 4 [.int x] st σ τ = am_run d 81 5 [.int x] (.int x :: st) σ τ := rr_iload_n dX9_isName_4 rfl
theorem r81_5 (d : Nat) (ls st : List Value) (σ : am_St) (τ : Int64) : am_run d 81 5 ls st σ τ = am_run d 81 7 ls (.int 6 :: st) σ τ := rr_bipush 6 dX9_isName_5 (by decide)
theorem r81_7 (d : Nat) (ls st : List Value) (σ : am_St) (τ : Int64) (x y : Int32) : am_run d 81 7 ls (.int y :: .int x :: st) σ τ = if y ≤ x then am_run d 81 14 ls st σ τ else am_run d 81 10 ls st σ τ := (rr_icmp 14 dX9_isName_7 (by decide)).trans am_sel
theorem r81_10 (d : Nat) (ls st : List Value) (σ : am_St) (τ : Int64) : am_run d 81 10 ls st σ τ = am_run d 81 11 ls (.int 1 :: st) σ τ := rr_iconst 1 dX9_isName_10 (by decide)
theorem r81_11 (d : Nat) (ls st : List Value) (σ : am_St) (τ : Int64) : am_run d 81 11 ls st σ τ = am_run d 81 15 ls st σ τ := rr_goto 15 dX9_isName_11 (by decide)
theorem r81_14 (d : Nat) (ls st : List Value) (σ : am_St) (τ : Int64) : am_run d 81 14 ls st σ τ = am_run d 81 15 ls (.int 0 :: st) σ τ := rr_iconst 0 dX9_isName_14 (by decide)
theorem r81_15 (d : Nat) (ls : List Value) (σ : am_St) (τ : Int64) (x : Int32) (hx : x = 0 ∨ x = 1) : am_run d 81 15 ls [.int x] σ τ = some (some (.int x), σ, τ) := rr_zret dX9_isName_15 rfl hx
