theorem dJ6_bitCount_0f7a4_0 : decode (am_code 142) 0 = .ok (.iload_n 0, 1) := by decide +kernel
theorem dJ6_bitCount_0f7a4_1 : decode (am_code 142) 1 = .ok (.iload_n 0, 1) := by decide +kernel
theorem dJ6_bitCount_0f7a4_2 : decode (am_code 142) 2 = .ok (.iconst 1, 1) := by decide +kernel
theorem dJ6_bitCount_0f7a4_3 : decode (am_code 142) 3 = .ok (.iushr, 1) := by decide +kernel
theorem dJ6_bitCount_0f7a4_4 : decode (am_code 142) 4 = .ok (.ldc_w 265, 3) := by decide +kernel
theorem dJ6_bitCount_0f7a4_7 : decode (am_code 142) 7 = .ok (.iand, 1) := by decide +kernel
theorem dJ6_bitCount_0f7a4_8 : decode (am_code 142) 8 = .ok (.isub, 1) := by decide +kernel
theorem dJ6_bitCount_0f7a4_9 : decode (am_code 142) 9 = .ok (.istore_n 0, 1) := by decide +kernel
theorem dJ6_bitCount_0f7a4_10 : decode (am_code 142) 10 = .ok (.iload_n 0, 1) := by decide +kernel
theorem dJ6_bitCount_0f7a4_11 : decode (am_code 142) 11 = .ok (.ldc_w 266, 3) := by decide +kernel
theorem dJ6_bitCount_0f7a4_14 : decode (am_code 142) 14 = .ok (.iand, 1) := by decide +kernel
theorem dJ6_bitCount_0f7a4_15 : decode (am_code 142) 15 = .ok (.iload_n 0, 1) := by decide +kernel
theorem dJ6_bitCount_0f7a4_16 : decode (am_code 142) 16 = .ok (.iconst 2, 1) := by decide +kernel
theorem dJ6_bitCount_0f7a4_17 : decode (am_code 142) 17 = .ok (.iushr, 1) := by decide +kernel
theorem dJ6_bitCount_0f7a4_18 : decode (am_code 142) 18 = .ok (.ldc_w 266, 3) := by decide +kernel
theorem dJ6_bitCount_0f7a4_21 : decode (am_code 142) 21 = .ok (.iand, 1) := by decide +kernel
theorem dJ6_bitCount_0f7a4_22 : decode (am_code 142) 22 = .ok (.iadd, 1) := by decide +kernel
theorem dJ6_bitCount_0f7a4_23 : decode (am_code 142) 23 = .ok (.istore_n 0, 1) := by decide +kernel
theorem dJ6_bitCount_0f7a4_24 : decode (am_code 142) 24 = .ok (.iload_n 0, 1) := by decide +kernel
theorem dJ6_bitCount_0f7a4_25 : decode (am_code 142) 25 = .ok (.iload_n 0, 1) := by decide +kernel
theorem dJ6_bitCount_0f7a4_26 : decode (am_code 142) 26 = .ok (.iconst 4, 1) := by decide +kernel
theorem dJ6_bitCount_0f7a4_27 : decode (am_code 142) 27 = .ok (.iushr, 1) := by decide +kernel
theorem dJ6_bitCount_0f7a4_28 : decode (am_code 142) 28 = .ok (.iadd, 1) := by decide +kernel
theorem dJ6_bitCount_0f7a4_29 : decode (am_code 142) 29 = .ok (.ldc_w 267, 3) := by decide +kernel
theorem dJ6_bitCount_0f7a4_32 : decode (am_code 142) 32 = .ok (.iand, 1) := by decide +kernel
theorem dJ6_bitCount_0f7a4_33 : decode (am_code 142) 33 = .ok (.istore_n 0, 1) := by decide +kernel
theorem dJ6_bitCount_0f7a4_34 : decode (am_code 142) 34 = .ok (.iload_n 0, 1) := by decide +kernel
theorem dJ6_bitCount_0f7a4_35 : decode (am_code 142) 35 = .ok (.iload_n 0, 1) := by decide +kernel
theorem dJ6_bitCount_0f7a4_36 : decode (am_code 142) 36 = .ok (.bipush 8, 2) := by decide +kernel
theorem dJ6_bitCount_0f7a4_38 : decode (am_code 142) 38 = .ok (.iushr, 1) := by decide +kernel
theorem dJ6_bitCount_0f7a4_39 : decode (am_code 142) 39 = .ok (.iadd, 1) := by decide +kernel
theorem dJ6_bitCount_0f7a4_40 : decode (am_code 142) 40 = .ok (.istore_n 0, 1) := by decide +kernel
theorem dJ6_bitCount_0f7a4_41 : decode (am_code 142) 41 = .ok (.iload_n 0, 1) := by decide +kernel
theorem dJ6_bitCount_0f7a4_42 : decode (am_code 142) 42 = .ok (.iload_n 0, 1) := by decide +kernel
theorem dJ6_bitCount_0f7a4_43 : decode (am_code 142) 43 = .ok (.bipush 16, 2) := by decide +kernel
theorem dJ6_bitCount_0f7a4_45 : decode (am_code 142) 45 = .ok (.iushr, 1) := by decide +kernel
theorem dJ6_bitCount_0f7a4_46 : decode (am_code 142) 46 = .ok (.iadd, 1) := by decide +kernel
theorem dJ6_bitCount_0f7a4_47 : decode (am_code 142) 47 = .ok (.istore_n 0, 1) := by decide +kernel
theorem dJ6_bitCount_0f7a4_48 : decode (am_code 142) 48 = .ok (.iload_n 0, 1) := by decide +kernel
theorem dJ6_bitCount_0f7a4_49 : decode (am_code 142) 49 = .ok (.bipush 63, 2) := by decide +kernel
theorem dJ6_bitCount_0f7a4_51 : decode (am_code 142) 51 = .ok (.iand, 1) := by decide +kernel
theorem dJ6_bitCount_0f7a4_52 : decode (am_code 142) 52 = .ok (.ireturn, 1) := by decide +kernel
theorem r142_0 (d : Nat) (st : List Value) (σ : am_St) (τ : Int64) (x : Int32) : am_run d 142 0 [.int x] st σ τ = am_run d 142 1 [.int x] (.int x :: st) σ τ := rr_iload_n dJ6_bitCount_0f7a4_0 rfl
theorem r142_1 (d : Nat) (st : List Value) (σ : am_St) (τ : Int64) (x : Int32) : am_run d 142 1 [.int x] st σ τ = am_run d 142 2 [.int x] (.int x :: st) σ τ := rr_iload_n dJ6_bitCount_0f7a4_1 rfl
theorem r142_2 (d : Nat) (ls st : List Value) (σ : am_St) (τ : Int64) : am_run d 142 2 ls st σ τ = am_run d 142 3 ls (.int 1 :: st) σ τ := rr_iconst 1 dJ6_bitCount_0f7a4_2 (by decide)
theorem r142_3 (d : Nat) (ls st : List Value) (σ : am_St) (τ : Int64) (x y : Int32) : am_run d 142 3 ls (.int y :: .int x :: st) σ τ = am_run d 142 4 ls (.int ((x.toUInt32 >>> (y.toUInt32 &&& Int32.toUInt32 31)).toInt32) :: st) σ τ := rr_iushr dJ6_bitCount_0f7a4_3
theorem r142_4 (d : Nat) (ls st : List Value) (σ : am_St) (τ : Int64) : am_run d 142 4 ls st σ τ = am_run d 142 7 ls (.int 1431655765 :: st) σ τ := rr_ldcw 1431655765 dJ6_bitCount_0f7a4_4 (by decide +kernel)
theorem r142_7 (d : Nat) (ls st : List Value) (σ : am_St) (τ : Int64) (x y : Int32) : am_run d 142 7 ls (.int y :: .int x :: st) σ τ = am_run d 142 8 ls (.int (x &&& y) :: st) σ τ := rr_iand dJ6_bitCount_0f7a4_7
theorem r142_8 (d : Nat) (ls st : List Value) (σ : am_St) (τ : Int64) (x y : Int32) : am_run d 142 8 ls (.int y :: .int x :: st) σ τ = am_run d 142 9 ls (.int (x - y) :: st) σ τ := rr_isub dJ6_bitCount_0f7a4_8
theorem r142_9 (d : Nat) (st : List Value) (σ : am_St) (τ : Int64) (x : Int32) (v0 : Value) : am_run d 142 9 [v0] (.int x :: st) σ τ = am_run d 142 10 [.int x] st σ τ := rr_istore_n _ dJ6_bitCount_0f7a4_9 (by decide) (by exact rfl)
theorem r142_10 (d : Nat) (st : List Value) (σ : am_St) (τ : Int64) (x : Int32) : am_run d 142 10 [.int x] st σ τ = am_run d 142 11 [.int x] (.int x :: st) σ τ := rr_iload_n dJ6_bitCount_0f7a4_10 rfl
theorem r142_11 (d : Nat) (ls st : List Value) (σ : am_St) (τ : Int64) : am_run d 142 11 ls st σ τ = am_run d 142 14 ls (.int 858993459 :: st) σ τ := rr_ldcw 858993459 dJ6_bitCount_0f7a4_11 (by decide +kernel)
theorem r142_14 (d : Nat) (ls st : List Value) (σ : am_St) (τ : Int64) (x y : Int32) : am_run d 142 14 ls (.int y :: .int x :: st) σ τ = am_run d 142 15 ls (.int (x &&& y) :: st) σ τ := rr_iand dJ6_bitCount_0f7a4_14
theorem r142_15 (d : Nat) (st : List Value) (σ : am_St) (τ : Int64) (x : Int32) : am_run d 142 15 [.int x] st σ τ = am_run d 142 16 [.int x] (.int x :: st) σ τ := rr_iload_n dJ6_bitCount_0f7a4_15 rfl
theorem r142_16 (d : Nat) (ls st : List Value) (σ : am_St) (τ : Int64) : am_run d 142 16 ls st σ τ = am_run d 142 17 ls (.int 2 :: st) σ τ := rr_iconst 2 dJ6_bitCount_0f7a4_16 (by decide)
theorem r142_17 (d : Nat) (ls st : List Value) (σ : am_St) (τ : Int64) (x y : Int32) : am_run d 142 17 ls (.int y :: .int x :: st) σ τ = am_run d 142 18 ls (.int ((x.toUInt32 >>> (y.toUInt32 &&& Int32.toUInt32 31)).toInt32) :: st) σ τ := rr_iushr dJ6_bitCount_0f7a4_17
theorem r142_18 (d : Nat) (ls st : List Value) (σ : am_St) (τ : Int64) : am_run d 142 18 ls st σ τ = am_run d 142 21 ls (.int 858993459 :: st) σ τ := rr_ldcw 858993459 dJ6_bitCount_0f7a4_18 (by decide +kernel)
theorem r142_21 (d : Nat) (ls st : List Value) (σ : am_St) (τ : Int64) (x y : Int32) : am_run d 142 21 ls (.int y :: .int x :: st) σ τ = am_run d 142 22 ls (.int (x &&& y) :: st) σ τ := rr_iand dJ6_bitCount_0f7a4_21
theorem r142_22 (d : Nat) (ls st : List Value) (σ : am_St) (τ : Int64) (x y : Int32) : am_run d 142 22 ls (.int y :: .int x :: st) σ τ = am_run d 142 23 ls (.int (x + y) :: st) σ τ := rr_iadd dJ6_bitCount_0f7a4_22
theorem r142_23 (d : Nat) (st : List Value) (σ : am_St) (τ : Int64) (x : Int32) (v0 : Value) : am_run d 142 23 [v0] (.int x :: st) σ τ = am_run d 142 24 [.int x] st σ τ := rr_istore_n _ dJ6_bitCount_0f7a4_23 (by decide) (by exact rfl)
theorem r142_24 (d : Nat) (st : List Value) (σ : am_St) (τ : Int64) (x : Int32) : am_run d 142 24 [.int x] st σ τ = am_run d 142 25 [.int x] (.int x :: st) σ τ := rr_iload_n dJ6_bitCount_0f7a4_24 rfl
theorem r142_25 (d : Nat) (st : List Value) (σ : am_St) (τ : Int64) (x : Int32) : am_run d 142 25 [.int x] st σ τ = am_run d 142 26 [.int x] (.int x :: st) σ τ := rr_iload_n dJ6_bitCount_0f7a4_25 rfl
theorem r142_26 (d : Nat) (ls st : List Value) (σ : am_St) (τ : Int64) : am_run d 142 26 ls st σ τ = am_run d 142 27 ls (.int 4 :: st) σ τ := rr_iconst 4 dJ6_bitCount_0f7a4_26 (by decide)
theorem r142_27 (d : Nat) (ls st : List Value) (σ : am_St) (τ : Int64) (x y : Int32) : am_run d 142 27 ls (.int y :: .int x :: st) σ τ = am_run d 142 28 ls (.int ((x.toUInt32 >>> (y.toUInt32 &&& Int32.toUInt32 31)).toInt32) :: st) σ τ := rr_iushr dJ6_bitCount_0f7a4_27
theorem r142_28 (d : Nat) (ls st : List Value) (σ : am_St) (τ : Int64) (x y : Int32) : am_run d 142 28 ls (.int y :: .int x :: st) σ τ = am_run d 142 29 ls (.int (x + y) :: st) σ τ := rr_iadd dJ6_bitCount_0f7a4_28
theorem r142_29 (d : Nat) (ls st : List Value) (σ : am_St) (τ : Int64) : am_run d 142 29 ls st σ τ = am_run d 142 32 ls (.int 252645135 :: st) σ τ := rr_ldcw 252645135 dJ6_bitCount_0f7a4_29 (by decide +kernel)
theorem r142_32 (d : Nat) (ls st : List Value) (σ : am_St) (τ : Int64) (x y : Int32) : am_run d 142 32 ls (.int y :: .int x :: st) σ τ = am_run d 142 33 ls (.int (x &&& y) :: st) σ τ := rr_iand dJ6_bitCount_0f7a4_32
theorem r142_33 (d : Nat) (st : List Value) (σ : am_St) (τ : Int64) (x : Int32) (v0 : Value) : am_run d 142 33 [v0] (.int x :: st) σ τ = am_run d 142 34 [.int x] st σ τ := rr_istore_n _ dJ6_bitCount_0f7a4_33 (by decide) (by exact rfl)
theorem r142_34 (d : Nat) (st : List Value) (σ : am_St) (τ : Int64) (x : Int32) : am_run d 142 34 [.int x] st σ τ = am_run d 142 35 [.int x] (.int x :: st) σ τ := rr_iload_n dJ6_bitCount_0f7a4_34 rfl
theorem r142_35 (d : Nat) (st : List Value) (σ : am_St) (τ : Int64) (x : Int32) : am_run d 142 35 [.int x] st σ τ = am_run d 142 36 [.int x] (.int x :: st) σ τ := rr_iload_n dJ6_bitCount_0f7a4_35 rfl
theorem r142_36 (d : Nat) (ls st : List Value) (σ : am_St) (τ : Int64) : am_run d 142 36 ls st σ τ = am_run d 142 38 ls (.int 8 :: st) σ τ := rr_bipush 8 dJ6_bitCount_0f7a4_36 (by decide)
theorem r142_38 (d : Nat) (ls st : List Value) (σ : am_St) (τ : Int64) (x y : Int32) : am_run d 142 38 ls (.int y :: .int x :: st) σ τ = am_run d 142 39 ls (.int ((x.toUInt32 >>> (y.toUInt32 &&& Int32.toUInt32 31)).toInt32) :: st) σ τ := rr_iushr dJ6_bitCount_0f7a4_38
theorem r142_39 (d : Nat) (ls st : List Value) (σ : am_St) (τ : Int64) (x y : Int32) : am_run d 142 39 ls (.int y :: .int x :: st) σ τ = am_run d 142 40 ls (.int (x + y) :: st) σ τ := rr_iadd dJ6_bitCount_0f7a4_39
theorem r142_40 (d : Nat) (st : List Value) (σ : am_St) (τ : Int64) (x : Int32) (v0 : Value) : am_run d 142 40 [v0] (.int x :: st) σ τ = am_run d 142 41 [.int x] st σ τ := rr_istore_n _ dJ6_bitCount_0f7a4_40 (by decide) (by exact rfl)
theorem r142_41 (d : Nat) (st : List Value) (σ : am_St) (τ : Int64) (x : Int32) : am_run d 142 41 [.int x] st σ τ = am_run d 142 42 [.int x] (.int x :: st) σ τ := rr_iload_n dJ6_bitCount_0f7a4_41 rfl
theorem r142_42 (d : Nat) (st : List Value) (σ : am_St) (τ : Int64) (x : Int32) : am_run d 142 42 [.int x] st σ τ = am_run d 142 43 [.int x] (.int x :: st) σ τ := rr_iload_n dJ6_bitCount_0f7a4_42 rfl
theorem r142_43 (d : Nat) (ls st : List Value) (σ : am_St) (τ : Int64) : am_run d 142 43 ls st σ τ = am_run d 142 45 ls (.int 16 :: st) σ τ := rr_bipush 16 dJ6_bitCount_0f7a4_43 (by decide)
theorem r142_45 (d : Nat) (ls st : List Value) (σ : am_St) (τ : Int64) (x y : Int32) : am_run d 142 45 ls (.int y :: .int x :: st) σ τ = am_run d 142 46 ls (.int ((x.toUInt32 >>> (y.toUInt32 &&& Int32.toUInt32 31)).toInt32) :: st) σ τ := rr_iushr dJ6_bitCount_0f7a4_45
theorem r142_46 (d : Nat) (ls st : List Value) (σ : am_St) (τ : Int64) (x y : Int32) : am_run d 142 46 ls (.int y :: .int x :: st) σ τ = am_run d 142 47 ls (.int (x + y) :: st) σ τ := rr_iadd dJ6_bitCount_0f7a4_46
theorem r142_47 (d : Nat) (st : List Value) (σ : am_St) (τ : Int64) (x : Int32) (v0 : Value) : am_run d 142 47 [v0] (.int x :: st) σ τ = am_run d 142 48 [.int x] st σ τ := rr_istore_n _ dJ6_bitCount_0f7a4_47 (by decide) (by exact rfl)
theorem r142_48 (d : Nat) (st : List Value) (σ : am_St) (τ : Int64) (x : Int32) : am_run d 142 48 [.int x] st σ τ = am_run d 142 49 [.int x] (.int x :: st) σ τ := rr_iload_n dJ6_bitCount_0f7a4_48 rfl
theorem r142_49 (d : Nat) (ls st : List Value) (σ : am_St) (τ : Int64) : am_run d 142 49 ls st σ τ = am_run d 142 51 ls (.int 63 :: st) σ τ := rr_bipush 63 dJ6_bitCount_0f7a4_49 (by decide)
theorem r142_51 (d : Nat) (ls st : List Value) (σ : am_St) (τ : Int64) (x y : Int32) : am_run d 142 51 ls (.int y :: .int x :: st) σ τ = am_run d 142 52 ls (.int (x &&& y) :: st) σ τ := rr_iand dJ6_bitCount_0f7a4_51
theorem r142_52 (d : Nat) (ls : List Value) (σ : am_St) (τ : Int64) (x : Int32) : am_run d 142 52 ls [.int x] σ τ = some (some (.int x), σ, τ) := rr_iret dJ6_bitCount_0f7a4_52 rfl
theorem dX8_add_0 : decode (am_code 44) 0 = .ok (.aload_n 0, 1) := by decide +kernel
theorem dX8_add_1 : decode (am_code 44) 1 = .ok (.getfield 15, 3) := by decide +kernel
theorem dX8_add_4 : decode (am_code 44) 4 = .ok (.bipush 16, 2) := by decide +kernel
theorem dX8_add_6 : decode (am_code 44) 6 = .ok (.if_icmp .ge 23, 3) := by decide +kernel
theorem dX8_add_9 : decode (am_code 44) 9 = .ok (.aload_n 0, 1) := by decide +kernel
theorem dX8_add_10 : decode (am_code 44) 10 = .ok (.getfield 9, 3) := by decide +kernel
theorem dX8_add_13 : decode (am_code 44) 13 = .ok (.aload_n 0, 1) := by decide +kernel
theorem dX8_add_14 : decode (am_code 44) 14 = .ok (.getfield 15, 3) := by decide +kernel
theorem dX8_add_17 : decode (am_code 44) 17 = .ok (.iload_n 1, 1) := by decide +kernel
theorem dX8_add_18 : decode (am_code 44) 18 = .ok (.iastore, 1) := by decide +kernel
theorem dX8_add_19 : decode (am_code 44) 19 = .ok (.aload_n 0, 1) := by decide +kernel
theorem dX8_add_20 : decode (am_code 44) 20 = .ok (.dup, 1) := by decide +kernel
theorem dX8_add_21 : decode (am_code 44) 21 = .ok (.getfield 15, 3) := by decide +kernel
theorem dX8_add_24 : decode (am_code 44) 24 = .ok (.iconst 1, 1) := by decide +kernel
theorem dX8_add_25 : decode (am_code 44) 25 = .ok (.iadd, 1) := by decide +kernel
theorem dX8_add_26 : decode (am_code 44) 26 = .ok (.putfield 15, 3) := by decide +kernel
theorem dX8_add_29 : decode (am_code 44) 29 = .ok (.return_, 1) := by decide +kernel
theorem r44_0 (d : Nat) (st : List Value) (σ : am_St) (τ : Int64) (x : Nat) (v1 : Value) : am_run d 44 0 [.ref x, v1] st σ τ = am_run d 44 1 [.ref x, v1] (.ref x :: st) σ τ := rr_aload_n dX8_add_0 rfl
theorem r44_1 (d : Nat) (ls st : List Value) (σ : am_St) (τ : Int64) (k : Nat) : am_run d 44 1 ls (.ref k :: st) σ τ = am_gf k 8 1 σ τ (fun v => am_run d 44 4 ls (v :: st) σ τ) := rr_getf dX8_add_1 (by decide +kernel)
theorem r44_4 (d : Nat) (ls st : List Value) (σ : am_St) (τ : Int64) : am_run d 44 4 ls st σ τ = am_run d 44 6 ls (.int 16 :: st) σ τ := rr_bipush 16 dX8_add_4 (by decide)
theorem r44_6 (d : Nat) (ls st : List Value) (σ : am_St) (τ : Int64) (x y : Int32) : am_run d 44 6 ls (.int y :: .int x :: st) σ τ = if y ≤ x then am_run d 44 29 ls st σ τ else am_run d 44 9 ls st σ τ := (rr_icmp 29 dX8_add_6 (by decide)).trans am_sel
theorem r44_9 (d : Nat) (st : List Value) (σ : am_St) (τ : Int64) (x : Nat) (v1 : Value) : am_run d 44 9 [.ref x, v1] st σ τ = am_run d 44 10 [.ref x, v1] (.ref x :: st) σ τ := rr_aload_n dX8_add_9 rfl
theorem r44_10 (d : Nat) (ls st : List Value) (σ : am_St) (τ : Int64) (k : Nat) : am_run d 44 10 ls (.ref k :: st) σ τ = am_gf k 8 0 σ τ (fun v => am_run d 44 13 ls (v :: st) σ τ) := rr_getf dX8_add_10 (by decide +kernel)
theorem r44_13 (d : Nat) (st : List Value) (σ : am_St) (τ : Int64) (x : Nat) (v1 : Value) : am_run d 44 13 [.ref x, v1] st σ τ = am_run d 44 14 [.ref x, v1] (.ref x :: st) σ τ := rr_aload_n dX8_add_13 rfl
theorem r44_14 (d : Nat) (ls st : List Value) (σ : am_St) (τ : Int64) (k : Nat) : am_run d 44 14 ls (.ref k :: st) σ τ = am_gf k 8 1 σ τ (fun v => am_run d 44 17 ls (v :: st) σ τ) := rr_getf dX8_add_14 (by decide +kernel)
theorem r44_17 (d : Nat) (st : List Value) (σ : am_St) (τ : Int64) (x : Int32) (v0 : Value) : am_run d 44 17 [v0, .int x] st σ τ = am_run d 44 18 [v0, .int x] (.int x :: st) σ τ := rr_iload_n dX8_add_17 rfl
theorem r44_18 (d : Nat) (ls st : List Value) (σ : am_St) (τ : Int64) (x i : Int32) (k : Nat) : am_run d 44 18 ls (.int x :: .int i :: .ref k :: st) σ τ = am_ai false k i (fun j => am_run d 44 19 ls st (am_up σ k j x) τ) := rr_iast dX8_add_18
theorem r44_19 (d : Nat) (st : List Value) (σ : am_St) (τ : Int64) (x : Nat) (v1 : Value) : am_run d 44 19 [.ref x, v1] st σ τ = am_run d 44 20 [.ref x, v1] (.ref x :: st) σ τ := rr_aload_n dX8_add_19 rfl
theorem r44_20 (d : Nat) (ls st : List Value) (σ : am_St) (τ : Int64) (x : Nat) : am_run d 44 20 ls (.ref x :: st) σ τ = am_run d 44 21 ls (.ref x :: .ref x :: st) σ τ := rr_dup_r dX8_add_20
theorem r44_20i (d : Nat) (ls st : List Value) (σ : am_St) (τ : Int64) (x : Int32) : am_run d 44 20 ls (.int x :: st) σ τ = am_run d 44 21 ls (.int x :: .int x :: st) σ τ := rr_dup_i dX8_add_20
theorem r44_21 (d : Nat) (ls st : List Value) (σ : am_St) (τ : Int64) (k : Nat) : am_run d 44 21 ls (.ref k :: st) σ τ = am_gf k 8 1 σ τ (fun v => am_run d 44 24 ls (v :: st) σ τ) := rr_getf dX8_add_21 (by decide +kernel)
theorem r44_24 (d : Nat) (ls st : List Value) (σ : am_St) (τ : Int64) : am_run d 44 24 ls st σ τ = am_run d 44 25 ls (.int 1 :: st) σ τ := rr_iconst 1 dX8_add_24 (by decide)
theorem r44_25 (d : Nat) (ls st : List Value) (σ : am_St) (τ : Int64) (x y : Int32) : am_run d 44 25 ls (.int y :: .int x :: st) σ τ = am_run d 44 26 ls (.int (x + y) :: st) σ τ := rr_iadd dX8_add_25
theorem r44_26 (d : Nat) (ls st : List Value) (σ : am_St) (τ : Int64) (k : Nat) (x : Int32) : am_run d 44 26 ls (.int x :: .ref k :: st) σ τ = am_pf k 8 1 x σ (fun σ => am_run d 44 29 ls st σ τ) := rr_putf dX8_add_26 (by decide +kernel)
theorem r44_29 (d : Nat) (ls : List Value) (σ : am_St) (τ : Int64) : am_run d 44 29 ls [] σ τ = some (none, σ, τ) := rr_vret dX8_add_29 rfl
theorem dX8_firstFault_0 : decode (am_code 45) 0 = .ok (.iconst 0, 1) := by decide +kernel
theorem dX8_firstFault_1 : decode (am_code 45) 1 = .ok (.istore_n 1, 1) := by decide +kernel
theorem dX8_firstFault_2 : decode (am_code 45) 2 = .ok (.iconst 0, 1) := by decide +kernel
theorem dX8_firstFault_3 : decode (am_code 45) 3 = .ok (.istore_n 2, 1) := by decide +kernel
theorem dX8_firstFault_4 : decode (am_code 45) 4 = .ok (.iload_n 2, 1) := by decide +kernel
theorem dX8_firstFault_5 : decode (am_code 45) 5 = .ok (.aload_n 0, 1) := by decide +kernel
theorem dX8_firstFault_6 : decode (am_code 45) 6 = .ok (.getfield 15, 3) := by decide +kernel
theorem dX8_firstFault_9 : decode (am_code 45) 9 = .ok (.if_icmp .ge 27, 3) := by decide +kernel
theorem dX8_firstFault_12 : decode (am_code 45) 12 = .ok (.iload_n 1, 1) := by decide +kernel
theorem dX8_firstFault_13 : decode (am_code 45) 13 = .ok (.aload_n 0, 1) := by decide +kernel
theorem dX8_firstFault_14 : decode (am_code 45) 14 = .ok (.getfield 9, 3) := by decide +kernel
theorem dX8_firstFault_17 : decode (am_code 45) 17 = .ok (.iload_n 2, 1) := by decide +kernel
theorem dX8_firstFault_18 : decode (am_code 45) 18 = .ok (.iaload, 1) := by decide +kernel
theorem dX8_firstFault_19 : decode (am_code 45) 19 = .ok (.invokestatic 19, 3) := by decide +kernel
theorem dX8_firstFault_22 : decode (am_code 45) 22 = .ok (.istore_n 1, 1) := by decide +kernel
theorem dX8_firstFault_23 : decode (am_code 45) 23 = .ok (.iload_n 1, 1) := by decide +kernel
theorem dX8_firstFault_24 : decode (am_code 45) 24 = .ok (.iconst (-1), 1) := by decide +kernel
theorem dX8_firstFault_25 : decode (am_code 45) 25 = .ok (.if_icmp .ne 5, 3) := by decide +kernel
theorem dX8_firstFault_28 : decode (am_code 45) 28 = .ok (.iload_n 2, 1) := by decide +kernel
theorem dX8_firstFault_29 : decode (am_code 45) 29 = .ok (.ireturn, 1) := by decide +kernel
theorem dX8_firstFault_30 : decode (am_code 45) 30 = .ok (.iinc 2 1, 3) := by decide +kernel
theorem dX8_firstFault_33 : decode (am_code 45) 33 = .ok (.goto (-29), 3) := by decide +kernel
theorem dX8_firstFault_36 : decode (am_code 45) 36 = .ok (.aload_n 0, 1) := by decide +kernel
theorem dX8_firstFault_37 : decode (am_code 45) 37 = .ok (.getfield 15, 3) := by decide +kernel
theorem dX8_firstFault_40 : decode (am_code 45) 40 = .ok (.ireturn, 1) := by decide +kernel
theorem r45_0 (d : Nat) (ls st : List Value) (σ : am_St) (τ : Int64) : am_run d 45 0 ls st σ τ = am_run d 45 1 ls (.int 0 :: st) σ τ := rr_iconst 0 dX8_firstFault_0 (by decide)
theorem r45_1 (d : Nat) (st : List Value) (σ : am_St) (τ : Int64) (x : Int32) (v0 v1 v2 : Value) : am_run d 45 1 [v0, v1, v2] (.int x :: st) σ τ = am_run d 45 2 [am_nl v0, .int x, v2] st σ τ := rr_istore_n _ dX8_firstFault_1 (by decide) (by first | rfl | (by_cases h : v0.category = 2 <;> simp [am_set1, am_nl, h]))
theorem r45_2 (d : Nat) (ls st : List Value) (σ : am_St) (τ : Int64) : am_run d 45 2 ls st σ τ = am_run d 45 3 ls (.int 0 :: st) σ τ := rr_iconst 0 dX8_firstFault_2 (by decide)
theorem r45_3 (d : Nat) (st : List Value) (σ : am_St) (τ : Int64) (x : Int32) (v0 v1 v2 : Value) : am_run d 45 3 [v0, v1, v2] (.int x :: st) σ τ = am_run d 45 4 [v0, am_nl v1, .int x] st σ τ := rr_istore_n _ dX8_firstFault_3 (by decide) (by first | rfl | (by_cases h : v1.category = 2 <;> simp [am_set1, am_nl, h]))
theorem r45_4 (d : Nat) (st : List Value) (σ : am_St) (τ : Int64) (x : Int32) (v0 v1 : Value) : am_run d 45 4 [v0, v1, .int x] st σ τ = am_run d 45 5 [v0, v1, .int x] (.int x :: st) σ τ := rr_iload_n dX8_firstFault_4 rfl
theorem r45_5 (d : Nat) (st : List Value) (σ : am_St) (τ : Int64) (x : Nat) (v1 v2 : Value) : am_run d 45 5 [.ref x, v1, v2] st σ τ = am_run d 45 6 [.ref x, v1, v2] (.ref x :: st) σ τ := rr_aload_n dX8_firstFault_5 rfl
theorem r45_6 (d : Nat) (ls st : List Value) (σ : am_St) (τ : Int64) (k : Nat) : am_run d 45 6 ls (.ref k :: st) σ τ = am_gf k 8 1 σ τ (fun v => am_run d 45 9 ls (v :: st) σ τ) := rr_getf dX8_firstFault_6 (by decide +kernel)
theorem r45_9 (d : Nat) (ls st : List Value) (σ : am_St) (τ : Int64) (x y : Int32) : am_run d 45 9 ls (.int y :: .int x :: st) σ τ = if y ≤ x then am_run d 45 36 ls st σ τ else am_run d 45 12 ls st σ τ := (rr_icmp 36 dX8_firstFault_9 (by decide)).trans am_sel
theorem r45_12 (d : Nat) (st : List Value) (σ : am_St) (τ : Int64) (x : Int32) (v0 v2 : Value) : am_run d 45 12 [v0, .int x, v2] st σ τ = am_run d 45 13 [v0, .int x, v2] (.int x :: st) σ τ := rr_iload_n dX8_firstFault_12 rfl
theorem r45_13 (d : Nat) (st : List Value) (σ : am_St) (τ : Int64) (x : Nat) (v1 v2 : Value) : am_run d 45 13 [.ref x, v1, v2] st σ τ = am_run d 45 14 [.ref x, v1, v2] (.ref x :: st) σ τ := rr_aload_n dX8_firstFault_13 rfl
theorem r45_14 (d : Nat) (ls st : List Value) (σ : am_St) (τ : Int64) (k : Nat) : am_run d 45 14 ls (.ref k :: st) σ τ = am_gf k 8 0 σ τ (fun v => am_run d 45 17 ls (v :: st) σ τ) := rr_getf dX8_firstFault_14 (by decide +kernel)
theorem r45_17 (d : Nat) (st : List Value) (σ : am_St) (τ : Int64) (x : Int32) (v0 v1 : Value) : am_run d 45 17 [v0, v1, .int x] st σ τ = am_run d 45 18 [v0, v1, .int x] (.int x :: st) σ τ := rr_iload_n dX8_firstFault_17 rfl
theorem r45_18 (d : Nat) (ls st : List Value) (σ : am_St) (τ : Int64) (i : Int32) (k : Nat) : am_run d 45 18 ls (.int i :: .ref k :: st) σ τ = am_ai false k i (fun j => am_run d 45 19 ls (.int (σ k j) :: st) σ τ) := rr_iald dX8_firstFault_18
theorem r45_19 (d : Nat) (ls st : List Value) (σ : am_St) (τ : Int64) (a0 : Int32) (a1 : Int32) (hc : am_cats st ≤ 8) : am_run (d + 1) 45 19 ls (.int a1 :: .int a0 :: st) σ τ = (am_call d 48 [.int a0, .int a1] σ τ).bind (fun r => am_run (d + 1) 45 22 ls (r.1.toList ++ st) r.2.1 r.2.2) := rr_invs [.int a0, .int a1] dX8_firstFault_19 (by decide +kernel) (by decide +kernel) (by decide) rfl (Nat.le_of_ble_eq_true rfl) hc
theorem r45_22 (d : Nat) (st : List Value) (σ : am_St) (τ : Int64) (x : Int32) (v0 v1 v2 : Value) : am_run d 45 22 [v0, v1, v2] (.int x :: st) σ τ = am_run d 45 23 [am_nl v0, .int x, v2] st σ τ := rr_istore_n _ dX8_firstFault_22 (by decide) (by first | rfl | (by_cases h : v0.category = 2 <;> simp [am_set1, am_nl, h]))
theorem r45_23 (d : Nat) (st : List Value) (σ : am_St) (τ : Int64) (x : Int32) (v0 v2 : Value) : am_run d 45 23 [v0, .int x, v2] st σ τ = am_run d 45 24 [v0, .int x, v2] (.int x :: st) σ τ := rr_iload_n dX8_firstFault_23 rfl
theorem r45_24 (d : Nat) (ls st : List Value) (σ : am_St) (τ : Int64) : am_run d 45 24 ls st σ τ = am_run d 45 25 ls (.int (-1) :: st) σ τ := rr_iconst (-1) dX8_firstFault_24 (by decide)
theorem r45_25 (d : Nat) (ls st : List Value) (σ : am_St) (τ : Int64) (x y : Int32) : am_run d 45 25 ls (.int y :: .int x :: st) σ τ = if x = y then am_run d 45 28 ls st σ τ else am_run d 45 30 ls st σ τ := (rr_icmp 30 dX8_firstFault_25 (by decide)).trans am_seln
theorem r45_28 (d : Nat) (st : List Value) (σ : am_St) (τ : Int64) (x : Int32) (v0 v1 : Value) : am_run d 45 28 [v0, v1, .int x] st σ τ = am_run d 45 29 [v0, v1, .int x] (.int x :: st) σ τ := rr_iload_n dX8_firstFault_28 rfl
theorem r45_29 (d : Nat) (ls : List Value) (σ : am_St) (τ : Int64) (x : Int32) : am_run d 45 29 ls [.int x] σ τ = some (some (.int x), σ, τ) := rr_iret dX8_firstFault_29 rfl
theorem r45_30 (d : Nat) (st : List Value) (σ : am_St) (τ : Int64) (x : Int32) (v0 v1 : Value) : am_run d 45 30 [v0, v1, .int x] st σ τ = am_run d 45 33 [v0, am_nl v1, .int (x + 1)] st σ τ := rr_iinc 1 _ dX8_firstFault_30 rfl (by decide) (by decide) (by first | rfl | (by_cases h : v1.category = 2 <;> simp [am_set1, am_nl, h]))
theorem r45_33 (d : Nat) (ls st : List Value) (σ : am_St) (τ : Int64) : am_run d 45 33 ls st σ τ = am_run d 45 4 ls st σ τ := rr_goto 4 dX8_firstFault_33 (by decide)
theorem r45_36 (d : Nat) (st : List Value) (σ : am_St) (τ : Int64) (x : Nat) (v1 v2 : Value) : am_run d 45 36 [.ref x, v1, v2] st σ τ = am_run d 45 37 [.ref x, v1, v2] (.ref x :: st) σ τ := rr_aload_n dX8_firstFault_36 rfl
theorem r45_37 (d : Nat) (ls st : List Value) (σ : am_St) (τ : Int64) (k : Nat) : am_run d 45 37 ls (.ref k :: st) σ τ = am_gf k 8 1 σ τ (fun v => am_run d 45 40 ls (v :: st) σ τ) := rr_getf dX8_firstFault_37 (by decide +kernel)
theorem r45_40 (d : Nat) (ls : List Value) (σ : am_St) (τ : Int64) (x : Int32) : am_run d 45 40 ls [.int x] σ τ = some (some (.int x), σ, τ) := rr_iret dX8_firstFault_40 rfl
theorem dX8_isLaw_0 : decode (am_code 46) 0 = .ok (.iconst 0, 1) := by decide +kernel
theorem dX8_isLaw_1 : decode (am_code 46) 1 = .ok (.istore_n 1, 1) := by decide +kernel
theorem dX8_isLaw_2 : decode (am_code 46) 2 = .ok (.iconst 0, 1) := by decide +kernel
theorem dX8_isLaw_3 : decode (am_code 46) 3 = .ok (.istore_n 2, 1) := by decide +kernel
theorem dX8_isLaw_4 : decode (am_code 46) 4 = .ok (.iload_n 2, 1) := by decide +kernel
theorem dX8_isLaw_5 : decode (am_code 46) 5 = .ok (.aload_n 0, 1) := by decide +kernel
theorem dX8_isLaw_6 : decode (am_code 46) 6 = .ok (.getfield 15, 3) := by decide +kernel
theorem dX8_isLaw_9 : decode (am_code 46) 9 = .ok (.if_icmp .ge 20, 3) := by decide +kernel
theorem dX8_isLaw_12 : decode (am_code 46) 12 = .ok (.iload_n 1, 1) := by decide +kernel
theorem dX8_isLaw_13 : decode (am_code 46) 13 = .ok (.aload_n 0, 1) := by decide +kernel
theorem dX8_isLaw_14 : decode (am_code 46) 14 = .ok (.getfield 9, 3) := by decide +kernel
theorem dX8_isLaw_17 : decode (am_code 46) 17 = .ok (.iload_n 2, 1) := by decide +kernel
theorem dX8_isLaw_18 : decode (am_code 46) 18 = .ok (.iaload, 1) := by decide +kernel
theorem dX8_isLaw_19 : decode (am_code 46) 19 = .ok (.invokestatic 19, 3) := by decide +kernel
theorem dX8_isLaw_22 : decode (am_code 46) 22 = .ok (.istore_n 1, 1) := by decide +kernel
theorem dX8_isLaw_23 : decode (am_code 46) 23 = .ok (.iinc 2 1, 3) := by decide +kernel
theorem dX8_isLaw_26 : decode (am_code 46) 26 = .ok (.goto (-22), 3) := by decide +kernel
theorem dX8_isLaw_29 : decode (am_code 46) 29 = .ok (.iload_n 1, 1) := by decide +kernel
theorem dX8_isLaw_30 : decode (am_code 46) 30 = .ok (.iconst 1, 1) := by decide +kernel
theorem dX8_isLaw_31 : decode (am_code 46) 31 = .ok (.if_icmp .eq 13, 3) := by decide +kernel
theorem dX8_isLaw_34 : decode (am_code 46) 34 = .ok (.iload_n 1, 1) := by decide +kernel
theorem dX8_isLaw_35 : decode (am_code 46) 35 = .ok (.iconst 3, 1) := by decide +kernel
theorem dX8_isLaw_36 : decode (am_code 46) 36 = .ok (.if_icmp .eq 8, 3) := by decide +kernel
theorem dX8_isLaw_39 : decode (am_code 46) 39 = .ok (.iload_n 1, 1) := by decide +kernel
theorem dX8_isLaw_40 : decode (am_code 46) 40 = .ok (.iconst 5, 1) := by decide +kernel
theorem dX8_isLaw_41 : decode (am_code 46) 41 = .ok (.if_icmp .ne 7, 3) := by decide +kernel
theorem dX8_isLaw_44 : decode (am_code 46) 44 = .ok (.iconst 1, 1) := by decide +kernel
theorem dX8_isLaw_45 : decode (am_code 46) 45 = .ok (.goto 4, 3) := by decide +kernel
theorem dX8_isLaw_48 : decode (am_code 46) 48 = .ok (.iconst 0, 1) := by decide +kernel
theorem dX8_isLaw_49 : decode (am_code 46) 49 = .ok (.ireturn, 1) := by decide +kernel
theorem r46_0 (d : Nat) (ls st : List Value) (σ : am_St) (τ : Int64) : am_run d 46 0 ls st σ τ = am_run d 46 1 ls (.int 0 :: st) σ τ := rr_iconst 0 dX8_isLaw_0 (by decide)
theorem r46_1 (d : Nat) (st : List Value) (σ : am_St) (τ : Int64) (x : Int32) (v0 v1 v2 : Value) : am_run d 46 1 [v0, v1, v2] (.int x :: st) σ τ = am_run d 46 2 [am_nl v0, .int x, v2] st σ τ := rr_istore_n _ dX8_isLaw_1 (by decide) (by first | rfl | (by_cases h : v0.category = 2 <;> simp [am_set1, am_nl, h]))
theorem r46_2 (d : Nat) (ls st : List Value) (σ : am_St) (τ : Int64) : am_run d 46 2 ls st σ τ = am_run d 46 3 ls (.int 0 :: st) σ τ := rr_iconst 0 dX8_isLaw_2 (by decide)
theorem r46_3 (d : Nat) (st : List Value) (σ : am_St) (τ : Int64) (x : Int32) (v0 v1 v2 : Value) : am_run d 46 3 [v0, v1, v2] (.int x :: st) σ τ = am_run d 46 4 [v0, am_nl v1, .int x] st σ τ := rr_istore_n _ dX8_isLaw_3 (by decide) (by first | rfl | (by_cases h : v1.category = 2 <;> simp [am_set1, am_nl, h]))
theorem r46_4 (d : Nat) (st : List Value) (σ : am_St) (τ : Int64) (x : Int32) (v0 v1 : Value) : am_run d 46 4 [v0, v1, .int x] st σ τ = am_run d 46 5 [v0, v1, .int x] (.int x :: st) σ τ := rr_iload_n dX8_isLaw_4 rfl
theorem r46_5 (d : Nat) (st : List Value) (σ : am_St) (τ : Int64) (x : Nat) (v1 v2 : Value) : am_run d 46 5 [.ref x, v1, v2] st σ τ = am_run d 46 6 [.ref x, v1, v2] (.ref x :: st) σ τ := rr_aload_n dX8_isLaw_5 rfl
theorem r46_6 (d : Nat) (ls st : List Value) (σ : am_St) (τ : Int64) (k : Nat) : am_run d 46 6 ls (.ref k :: st) σ τ = am_gf k 8 1 σ τ (fun v => am_run d 46 9 ls (v :: st) σ τ) := rr_getf dX8_isLaw_6 (by decide +kernel)
theorem r46_9 (d : Nat) (ls st : List Value) (σ : am_St) (τ : Int64) (x y : Int32) : am_run d 46 9 ls (.int y :: .int x :: st) σ τ = if y ≤ x then am_run d 46 29 ls st σ τ else am_run d 46 12 ls st σ τ := (rr_icmp 29 dX8_isLaw_9 (by decide)).trans am_sel
theorem r46_12 (d : Nat) (st : List Value) (σ : am_St) (τ : Int64) (x : Int32) (v0 v2 : Value) : am_run d 46 12 [v0, .int x, v2] st σ τ = am_run d 46 13 [v0, .int x, v2] (.int x :: st) σ τ := rr_iload_n dX8_isLaw_12 rfl
theorem r46_13 (d : Nat) (st : List Value) (σ : am_St) (τ : Int64) (x : Nat) (v1 v2 : Value) : am_run d 46 13 [.ref x, v1, v2] st σ τ = am_run d 46 14 [.ref x, v1, v2] (.ref x :: st) σ τ := rr_aload_n dX8_isLaw_13 rfl
theorem r46_14 (d : Nat) (ls st : List Value) (σ : am_St) (τ : Int64) (k : Nat) : am_run d 46 14 ls (.ref k :: st) σ τ = am_gf k 8 0 σ τ (fun v => am_run d 46 17 ls (v :: st) σ τ) := rr_getf dX8_isLaw_14 (by decide +kernel)
theorem r46_17 (d : Nat) (st : List Value) (σ : am_St) (τ : Int64) (x : Int32) (v0 v1 : Value) : am_run d 46 17 [v0, v1, .int x] st σ τ = am_run d 46 18 [v0, v1, .int x] (.int x :: st) σ τ := rr_iload_n dX8_isLaw_17 rfl
theorem r46_18 (d : Nat) (ls st : List Value) (σ : am_St) (τ : Int64) (i : Int32) (k : Nat) : am_run d 46 18 ls (.int i :: .ref k :: st) σ τ = am_ai false k i (fun j => am_run d 46 19 ls (.int (σ k j) :: st) σ τ) := rr_iald dX8_isLaw_18
theorem r46_19 (d : Nat) (ls st : List Value) (σ : am_St) (τ : Int64) (a0 : Int32) (a1 : Int32) (hc : am_cats st ≤ 8) : am_run (d + 1) 46 19 ls (.int a1 :: .int a0 :: st) σ τ = (am_call d 48 [.int a0, .int a1] σ τ).bind (fun r => am_run (d + 1) 46 22 ls (r.1.toList ++ st) r.2.1 r.2.2) := rr_invs [.int a0, .int a1] dX8_isLaw_19 (by decide +kernel) (by decide +kernel) (by decide) rfl (Nat.le_of_ble_eq_true rfl) hc
theorem r46_22 (d : Nat) (st : List Value) (σ : am_St) (τ : Int64) (x : Int32) (v0 v1 v2 : Value) : am_run d 46 22 [v0, v1, v2] (.int x :: st) σ τ = am_run d 46 23 [am_nl v0, .int x, v2] st σ τ := rr_istore_n _ dX8_isLaw_22 (by decide) (by first | rfl | (by_cases h : v0.category = 2 <;> simp [am_set1, am_nl, h]))
theorem r46_23 (d : Nat) (st : List Value) (σ : am_St) (τ : Int64) (x : Int32) (v0 v1 : Value) : am_run d 46 23 [v0, v1, .int x] st σ τ = am_run d 46 26 [v0, am_nl v1, .int (x + 1)] st σ τ := rr_iinc 1 _ dX8_isLaw_23 rfl (by decide) (by decide) (by first | rfl | (by_cases h : v1.category = 2 <;> simp [am_set1, am_nl, h]))
theorem r46_26 (d : Nat) (ls st : List Value) (σ : am_St) (τ : Int64) : am_run d 46 26 ls st σ τ = am_run d 46 4 ls st σ τ := rr_goto 4 dX8_isLaw_26 (by decide)
theorem r46_29 (d : Nat) (st : List Value) (σ : am_St) (τ : Int64) (x : Int32) (v0 v2 : Value) : am_run d 46 29 [v0, .int x, v2] st σ τ = am_run d 46 30 [v0, .int x, v2] (.int x :: st) σ τ := rr_iload_n dX8_isLaw_29 rfl
theorem r46_30 (d : Nat) (ls st : List Value) (σ : am_St) (τ : Int64) : am_run d 46 30 ls st σ τ = am_run d 46 31 ls (.int 1 :: st) σ τ := rr_iconst 1 dX8_isLaw_30 (by decide)
theorem r46_31 (d : Nat) (ls st : List Value) (σ : am_St) (τ : Int64) (x y : Int32) : am_run d 46 31 ls (.int y :: .int x :: st) σ τ = if x = y then am_run d 46 44 ls st σ τ else am_run d 46 34 ls st σ τ := (rr_icmp 44 dX8_isLaw_31 (by decide)).trans am_sel
theorem r46_34 (d : Nat) (st : List Value) (σ : am_St) (τ : Int64) (x : Int32) (v0 v2 : Value) : am_run d 46 34 [v0, .int x, v2] st σ τ = am_run d 46 35 [v0, .int x, v2] (.int x :: st) σ τ := rr_iload_n dX8_isLaw_34 rfl
theorem r46_35 (d : Nat) (ls st : List Value) (σ : am_St) (τ : Int64) : am_run d 46 35 ls st σ τ = am_run d 46 36 ls (.int 3 :: st) σ τ := rr_iconst 3 dX8_isLaw_35 (by decide)
theorem r46_36 (d : Nat) (ls st : List Value) (σ : am_St) (τ : Int64) (x y : Int32) : am_run d 46 36 ls (.int y :: .int x :: st) σ τ = if x = y then am_run d 46 44 ls st σ τ else am_run d 46 39 ls st σ τ := (rr_icmp 44 dX8_isLaw_36 (by decide)).trans am_sel
theorem r46_39 (d : Nat) (st : List Value) (σ : am_St) (τ : Int64) (x : Int32) (v0 v2 : Value) : am_run d 46 39 [v0, .int x, v2] st σ τ = am_run d 46 40 [v0, .int x, v2] (.int x :: st) σ τ := rr_iload_n dX8_isLaw_39 rfl
theorem r46_40 (d : Nat) (ls st : List Value) (σ : am_St) (τ : Int64) : am_run d 46 40 ls st σ τ = am_run d 46 41 ls (.int 5 :: st) σ τ := rr_iconst 5 dX8_isLaw_40 (by decide)
theorem r46_41 (d : Nat) (ls st : List Value) (σ : am_St) (τ : Int64) (x y : Int32) : am_run d 46 41 ls (.int y :: .int x :: st) σ τ = if x = y then am_run d 46 44 ls st σ τ else am_run d 46 48 ls st σ τ := (rr_icmp 48 dX8_isLaw_41 (by decide)).trans am_seln
theorem r46_44 (d : Nat) (ls st : List Value) (σ : am_St) (τ : Int64) : am_run d 46 44 ls st σ τ = am_run d 46 45 ls (.int 1 :: st) σ τ := rr_iconst 1 dX8_isLaw_44 (by decide)
theorem r46_45 (d : Nat) (ls st : List Value) (σ : am_St) (τ : Int64) : am_run d 46 45 ls st σ τ = am_run d 46 49 ls st σ τ := rr_goto 49 dX8_isLaw_45 (by decide)
theorem r46_48 (d : Nat) (ls st : List Value) (σ : am_St) (τ : Int64) : am_run d 46 48 ls st σ τ = am_run d 46 49 ls (.int 0 :: st) σ τ := rr_iconst 0 dX8_isLaw_48 (by decide)
theorem r46_49 (d : Nat) (ls : List Value) (σ : am_St) (τ : Int64) (x : Int32) (hx : x = 0 ∨ x = 1) : am_run d 46 49 ls [.int x] σ τ = some (some (.int x), σ, τ) := rr_zret dX8_isLaw_49 rfl hx
theorem dX8_readInto_0 : decode (am_code 47) 0 = .ok (.aload_n 1, 1) := by decide +kernel
theorem dX8_readInto_1 : decode (am_code 47) 1 = .ok (.iconst 0, 1) := by decide +kernel
theorem dX8_readInto_2 : decode (am_code 47) 2 = .ok (.putfield 23, 3) := by decide +kernel
theorem dX8_readInto_5 : decode (am_code 47) 5 = .ok (.aload_n 1, 1) := by decide +kernel
theorem dX8_readInto_6 : decode (am_code 47) 6 = .ok (.iconst (-1), 1) := by decide +kernel
theorem dX8_readInto_7 : decode (am_code 47) 7 = .ok (.putfield 28, 3) := by decide +kernel
theorem dX8_readInto_10 : decode (am_code 47) 10 = .ok (.aload_n 1, 1) := by decide +kernel
theorem dX8_readInto_11 : decode (am_code 47) 11 = .ok (.iconst 1, 1) := by decide +kernel
theorem dX8_readInto_12 : decode (am_code 47) 12 = .ok (.putfield 31, 3) := by decide +kernel
theorem dX8_readInto_15 : decode (am_code 47) 15 = .ok (.iconst 0, 1) := by decide +kernel
theorem dX8_readInto_16 : decode (am_code 47) 16 = .ok (.istore_n 2, 1) := by decide +kernel
theorem dX8_readInto_17 : decode (am_code 47) 17 = .ok (.iconst 0, 1) := by decide +kernel
theorem dX8_readInto_18 : decode (am_code 47) 18 = .ok (.istore_n 3, 1) := by decide +kernel
theorem dX8_readInto_19 : decode (am_code 47) 19 = .ok (.iload_n 3, 1) := by decide +kernel
theorem dX8_readInto_20 : decode (am_code 47) 20 = .ok (.aload_n 0, 1) := by decide +kernel
theorem dX8_readInto_21 : decode (am_code 47) 21 = .ok (.getfield 15, 3) := by decide +kernel
theorem dX8_readInto_24 : decode (am_code 47) 24 = .ok (.if_icmp .ge 118, 3) := by decide +kernel
theorem dX8_readInto_27 : decode (am_code 47) 27 = .ok (.iload_n 2, 1) := by decide +kernel
theorem dX8_readInto_28 : decode (am_code 47) 28 = .ok (.aload_n 0, 1) := by decide +kernel
theorem dX8_readInto_29 : decode (am_code 47) 29 = .ok (.getfield 9, 3) := by decide +kernel
theorem dX8_readInto_32 : decode (am_code 47) 32 = .ok (.iload_n 3, 1) := by decide +kernel
theorem dX8_readInto_33 : decode (am_code 47) 33 = .ok (.iaload, 1) := by decide +kernel
theorem dX8_readInto_34 : decode (am_code 47) 34 = .ok (.invokestatic 19, 3) := by decide +kernel
theorem dX8_readInto_37 : decode (am_code 47) 37 = .ok (.istore_n 2, 1) := by decide +kernel
theorem dX8_readInto_38 : decode (am_code 47) 38 = .ok (.iload_n 2, 1) := by decide +kernel
theorem dX8_readInto_39 : decode (am_code 47) 39 = .ok (.tableswitch 97 1 5 #[33, 49, 65, 97, 81], 33) := by decide +kernel
theorem dX8_readInto_72 : decode (am_code 47) 72 = .ok (.aload_n 1, 1) := by decide +kernel
theorem dX8_readInto_73 : decode (am_code 47) 73 = .ok (.aload_n 0, 1) := by decide +kernel
theorem dX8_readInto_74 : decode (am_code 47) 74 = .ok (.getfield 9, 3) := by decide +kernel
theorem dX8_readInto_77 : decode (am_code 47) 77 = .ok (.iload_n 3, 1) := by decide +kernel
theorem dX8_readInto_78 : decode (am_code 47) 78 = .ok (.iaload, 1) := by decide +kernel
theorem dX8_readInto_79 : decode (am_code 47) 79 = .ok (.invokestatic 34, 3) := by decide +kernel
theorem dX8_readInto_82 : decode (am_code 47) 82 = .ok (.putfield 38, 3) := by decide +kernel
theorem dX8_readInto_85 : decode (am_code 47) 85 = .ok (.goto 51, 3) := by decide +kernel
theorem dX8_readInto_88 : decode (am_code 47) 88 = .ok (.aload_n 1, 1) := by decide +kernel
theorem dX8_readInto_89 : decode (am_code 47) 89 = .ok (.aload_n 0, 1) := by decide +kernel
theorem dX8_readInto_90 : decode (am_code 47) 90 = .ok (.getfield 9, 3) := by decide +kernel
theorem dX8_readInto_93 : decode (am_code 47) 93 = .ok (.iload_n 3, 1) := by decide +kernel
theorem dX8_readInto_94 : decode (am_code 47) 94 = .ok (.iaload, 1) := by decide +kernel
theorem dX8_readInto_95 : decode (am_code 47) 95 = .ok (.bipush 48, 2) := by decide +kernel
theorem dX8_readInto_97 : decode (am_code 47) 97 = .ok (.isub, 1) := by decide +kernel
theorem dX8_readInto_98 : decode (am_code 47) 98 = .ok (.putfield 23, 3) := by decide +kernel
theorem dX8_readInto_101 : decode (am_code 47) 101 = .ok (.goto 35, 3) := by decide +kernel
theorem dX8_readInto_104 : decode (am_code 47) 104 = .ok (.aload_n 1, 1) := by decide +kernel
theorem dX8_readInto_105 : decode (am_code 47) 105 = .ok (.aload_n 0, 1) := by decide +kernel
theorem dX8_readInto_106 : decode (am_code 47) 106 = .ok (.getfield 9, 3) := by decide +kernel
theorem dX8_readInto_109 : decode (am_code 47) 109 = .ok (.iload_n 3, 1) := by decide +kernel
theorem dX8_readInto_110 : decode (am_code 47) 110 = .ok (.iaload, 1) := by decide +kernel
theorem dX8_readInto_111 : decode (am_code 47) 111 = .ok (.invokestatic 34, 3) := by decide +kernel
theorem dX8_readInto_114 : decode (am_code 47) 114 = .ok (.putfield 28, 3) := by decide +kernel
theorem dX8_readInto_117 : decode (am_code 47) 117 = .ok (.goto 19, 3) := by decide +kernel
theorem dX8_readInto_120 : decode (am_code 47) 120 = .ok (.aload_n 1, 1) := by decide +kernel
theorem dX8_readInto_121 : decode (am_code 47) 121 = .ok (.aload_n 0, 1) := by decide +kernel
theorem dX8_readInto_122 : decode (am_code 47) 122 = .ok (.getfield 9, 3) := by decide +kernel
theorem dX8_readInto_125 : decode (am_code 47) 125 = .ok (.iload_n 3, 1) := by decide +kernel
theorem dX8_readInto_126 : decode (am_code 47) 126 = .ok (.iaload, 1) := by decide +kernel
theorem dX8_readInto_127 : decode (am_code 47) 127 = .ok (.invokestatic 34, 3) := by decide +kernel
theorem dX8_readInto_130 : decode (am_code 47) 130 = .ok (.putfield 31, 3) := by decide +kernel
theorem dX8_readInto_133 : decode (am_code 47) 133 = .ok (.goto 3, 3) := by decide +kernel
theorem dX8_readInto_136 : decode (am_code 47) 136 = .ok (.iinc 3 1, 3) := by decide +kernel
theorem dX8_readInto_139 : decode (am_code 47) 139 = .ok (.goto (-120), 3) := by decide +kernel
theorem dX8_readInto_142 : decode (am_code 47) 142 = .ok (.return_, 1) := by decide +kernel
theorem r47_0 (d : Nat) (st : List Value) (σ : am_St) (τ : Int64) (x : Nat) (v0 v2 v3 : Value) : am_run d 47 0 [v0, .ref x, v2, v3] st σ τ = am_run d 47 1 [v0, .ref x, v2, v3] (.ref x :: st) σ τ := rr_aload_n dX8_readInto_0 rfl
theorem r47_1 (d : Nat) (ls st : List Value) (σ : am_St) (τ : Int64) : am_run d 47 1 ls st σ τ = am_run d 47 2 ls (.int 0 :: st) σ τ := rr_iconst 0 dX8_readInto_1 (by decide)
theorem r47_2 (d : Nat) (ls st : List Value) (σ : am_St) (τ : Int64) (k : Nat) (x : Int32) : am_run d 47 2 ls (.int x :: .ref k :: st) σ τ = am_pf k 4 1 x σ (fun σ => am_run d 47 5 ls st σ τ) := rr_putf dX8_readInto_2 (by decide +kernel)
theorem r47_5 (d : Nat) (st : List Value) (σ : am_St) (τ : Int64) (x : Nat) (v0 v2 v3 : Value) : am_run d 47 5 [v0, .ref x, v2, v3] st σ τ = am_run d 47 6 [v0, .ref x, v2, v3] (.ref x :: st) σ τ := rr_aload_n dX8_readInto_5 rfl
theorem r47_6 (d : Nat) (ls st : List Value) (σ : am_St) (τ : Int64) : am_run d 47 6 ls st σ τ = am_run d 47 7 ls (.int (-1) :: st) σ τ := rr_iconst (-1) dX8_readInto_6 (by decide)
theorem r47_7 (d : Nat) (ls st : List Value) (σ : am_St) (τ : Int64) (k : Nat) (x : Int32) : am_run d 47 7 ls (.int x :: .ref k :: st) σ τ = am_pf k 4 2 x σ (fun σ => am_run d 47 10 ls st σ τ) := rr_putf dX8_readInto_7 (by decide +kernel)
theorem r47_10 (d : Nat) (st : List Value) (σ : am_St) (τ : Int64) (x : Nat) (v0 v2 v3 : Value) : am_run d 47 10 [v0, .ref x, v2, v3] st σ τ = am_run d 47 11 [v0, .ref x, v2, v3] (.ref x :: st) σ τ := rr_aload_n dX8_readInto_10 rfl
theorem r47_11 (d : Nat) (ls st : List Value) (σ : am_St) (τ : Int64) : am_run d 47 11 ls st σ τ = am_run d 47 12 ls (.int 1 :: st) σ τ := rr_iconst 1 dX8_readInto_11 (by decide)
theorem r47_12 (d : Nat) (ls st : List Value) (σ : am_St) (τ : Int64) (k : Nat) (x : Int32) : am_run d 47 12 ls (.int x :: .ref k :: st) σ τ = am_pf k 4 3 x σ (fun σ => am_run d 47 15 ls st σ τ) := rr_putf dX8_readInto_12 (by decide +kernel)
theorem r47_15 (d : Nat) (ls st : List Value) (σ : am_St) (τ : Int64) : am_run d 47 15 ls st σ τ = am_run d 47 16 ls (.int 0 :: st) σ τ := rr_iconst 0 dX8_readInto_15 (by decide)
theorem r47_16 (d : Nat) (st : List Value) (σ : am_St) (τ : Int64) (x : Int32) (v0 v1 v2 v3 : Value) : am_run d 47 16 [v0, v1, v2, v3] (.int x :: st) σ τ = am_run d 47 17 [v0, am_nl v1, .int x, v3] st σ τ := rr_istore_n _ dX8_readInto_16 (by decide) (by first | rfl | (by_cases h : v1.category = 2 <;> simp [am_set1, am_nl, h]))
theorem r47_17 (d : Nat) (ls st : List Value) (σ : am_St) (τ : Int64) : am_run d 47 17 ls st σ τ = am_run d 47 18 ls (.int 0 :: st) σ τ := rr_iconst 0 dX8_readInto_17 (by decide)
theorem r47_18 (d : Nat) (st : List Value) (σ : am_St) (τ : Int64) (x : Int32) (v0 v1 v2 v3 : Value) : am_run d 47 18 [v0, v1, v2, v3] (.int x :: st) σ τ = am_run d 47 19 [v0, v1, am_nl v2, .int x] st σ τ := rr_istore_n _ dX8_readInto_18 (by decide) (by first | rfl | (by_cases h : v2.category = 2 <;> simp [am_set1, am_nl, h]))
theorem r47_19 (d : Nat) (st : List Value) (σ : am_St) (τ : Int64) (x : Int32) (v0 v1 v2 : Value) : am_run d 47 19 [v0, v1, v2, .int x] st σ τ = am_run d 47 20 [v0, v1, v2, .int x] (.int x :: st) σ τ := rr_iload_n dX8_readInto_19 rfl
theorem r47_20 (d : Nat) (st : List Value) (σ : am_St) (τ : Int64) (x : Nat) (v1 v2 v3 : Value) : am_run d 47 20 [.ref x, v1, v2, v3] st σ τ = am_run d 47 21 [.ref x, v1, v2, v3] (.ref x :: st) σ τ := rr_aload_n dX8_readInto_20 rfl
theorem r47_21 (d : Nat) (ls st : List Value) (σ : am_St) (τ : Int64) (k : Nat) : am_run d 47 21 ls (.ref k :: st) σ τ = am_gf k 8 1 σ τ (fun v => am_run d 47 24 ls (v :: st) σ τ) := rr_getf dX8_readInto_21 (by decide +kernel)
theorem r47_24 (d : Nat) (ls st : List Value) (σ : am_St) (τ : Int64) (x y : Int32) : am_run d 47 24 ls (.int y :: .int x :: st) σ τ = if y ≤ x then am_run d 47 142 ls st σ τ else am_run d 47 27 ls st σ τ := (rr_icmp 142 dX8_readInto_24 (by decide)).trans am_sel
theorem r47_27 (d : Nat) (st : List Value) (σ : am_St) (τ : Int64) (x : Int32) (v0 v1 v3 : Value) : am_run d 47 27 [v0, v1, .int x, v3] st σ τ = am_run d 47 28 [v0, v1, .int x, v3] (.int x :: st) σ τ := rr_iload_n dX8_readInto_27 rfl
theorem r47_28 (d : Nat) (st : List Value) (σ : am_St) (τ : Int64) (x : Nat) (v1 v2 v3 : Value) : am_run d 47 28 [.ref x, v1, v2, v3] st σ τ = am_run d 47 29 [.ref x, v1, v2, v3] (.ref x :: st) σ τ := rr_aload_n dX8_readInto_28 rfl
theorem r47_29 (d : Nat) (ls st : List Value) (σ : am_St) (τ : Int64) (k : Nat) : am_run d 47 29 ls (.ref k :: st) σ τ = am_gf k 8 0 σ τ (fun v => am_run d 47 32 ls (v :: st) σ τ) := rr_getf dX8_readInto_29 (by decide +kernel)
theorem r47_32 (d : Nat) (st : List Value) (σ : am_St) (τ : Int64) (x : Int32) (v0 v1 v2 : Value) : am_run d 47 32 [v0, v1, v2, .int x] st σ τ = am_run d 47 33 [v0, v1, v2, .int x] (.int x :: st) σ τ := rr_iload_n dX8_readInto_32 rfl
theorem r47_33 (d : Nat) (ls st : List Value) (σ : am_St) (τ : Int64) (i : Int32) (k : Nat) : am_run d 47 33 ls (.int i :: .ref k :: st) σ τ = am_ai false k i (fun j => am_run d 47 34 ls (.int (σ k j) :: st) σ τ) := rr_iald dX8_readInto_33
theorem r47_34 (d : Nat) (ls st : List Value) (σ : am_St) (τ : Int64) (a0 : Int32) (a1 : Int32) (hc : am_cats st ≤ 8) : am_run (d + 1) 47 34 ls (.int a1 :: .int a0 :: st) σ τ = (am_call d 48 [.int a0, .int a1] σ τ).bind (fun r => am_run (d + 1) 47 37 ls (r.1.toList ++ st) r.2.1 r.2.2) := rr_invs [.int a0, .int a1] dX8_readInto_34 (by decide +kernel) (by decide +kernel) (by decide) rfl (Nat.le_of_ble_eq_true rfl) hc
theorem r47_37 (d : Nat) (st : List Value) (σ : am_St) (τ : Int64) (x : Int32) (v0 v1 v2 v3 : Value) : am_run d 47 37 [v0, v1, v2, v3] (.int x :: st) σ τ = am_run d 47 38 [v0, am_nl v1, .int x, v3] st σ τ := rr_istore_n _ dX8_readInto_37 (by decide) (by first | rfl | (by_cases h : v1.category = 2 <;> simp [am_set1, am_nl, h]))
theorem r47_38 (d : Nat) (st : List Value) (σ : am_St) (τ : Int64) (x : Int32) (v0 v1 v3 : Value) : am_run d 47 38 [v0, v1, .int x, v3] st σ τ = am_run d 47 39 [v0, v1, .int x, v3] (.int x :: st) σ τ := rr_iload_n dX8_readInto_38 rfl
theorem r47_39 (d : Nat) (ls st : List Value) (σ : am_St) (τ : Int64) (x : Int32) : am_run d 47 39 ls (.int x :: st) σ τ = am_run d 47 (am_sw x 1 [72, 88, 104, 136, 120] 136) ls st σ τ := rr_tsw [72, 88, 104, 136, 120] 136 dX8_readInto_39 (by decide) (by decide) (by decide)
theorem r47_72 (d : Nat) (st : List Value) (σ : am_St) (τ : Int64) (x : Nat) (v0 v2 v3 : Value) : am_run d 47 72 [v0, .ref x, v2, v3] st σ τ = am_run d 47 73 [v0, .ref x, v2, v3] (.ref x :: st) σ τ := rr_aload_n dX8_readInto_72 rfl
theorem r47_73 (d : Nat) (st : List Value) (σ : am_St) (τ : Int64) (x : Nat) (v1 v2 v3 : Value) : am_run d 47 73 [.ref x, v1, v2, v3] st σ τ = am_run d 47 74 [.ref x, v1, v2, v3] (.ref x :: st) σ τ := rr_aload_n dX8_readInto_73 rfl
theorem r47_74 (d : Nat) (ls st : List Value) (σ : am_St) (τ : Int64) (k : Nat) : am_run d 47 74 ls (.ref k :: st) σ τ = am_gf k 8 0 σ τ (fun v => am_run d 47 77 ls (v :: st) σ τ) := rr_getf dX8_readInto_74 (by decide +kernel)
theorem r47_77 (d : Nat) (st : List Value) (σ : am_St) (τ : Int64) (x : Int32) (v0 v1 v2 : Value) : am_run d 47 77 [v0, v1, v2, .int x] st σ τ = am_run d 47 78 [v0, v1, v2, .int x] (.int x :: st) σ τ := rr_iload_n dX8_readInto_77 rfl
theorem r47_78 (d : Nat) (ls st : List Value) (σ : am_St) (τ : Int64) (i : Int32) (k : Nat) : am_run d 47 78 ls (.int i :: .ref k :: st) σ τ = am_ai false k i (fun j => am_run d 47 79 ls (.int (σ k j) :: st) σ τ) := rr_iald dX8_readInto_78
theorem r47_79 (d : Nat) (ls st : List Value) (σ : am_St) (τ : Int64) (a0 : Int32) (hc : am_cats st ≤ 8) : am_run (d + 1) 47 79 ls (.int a0 :: st) σ τ = (am_call d 50 [.int a0] σ τ).bind (fun r => am_run (d + 1) 47 82 ls (r.1.toList ++ st) r.2.1 r.2.2) := rr_invs [.int a0] dX8_readInto_79 (by decide +kernel) (by decide +kernel) (by decide) rfl (Nat.le_of_ble_eq_true rfl) hc
theorem r47_82 (d : Nat) (ls st : List Value) (σ : am_St) (τ : Int64) (k : Nat) (x : Int32) : am_run d 47 82 ls (.int x :: .ref k :: st) σ τ = am_pf k 4 0 x σ (fun σ => am_run d 47 85 ls st σ τ) := rr_putf dX8_readInto_82 (by decide +kernel)
theorem r47_85 (d : Nat) (ls st : List Value) (σ : am_St) (τ : Int64) : am_run d 47 85 ls st σ τ = am_run d 47 136 ls st σ τ := rr_goto 136 dX8_readInto_85 (by decide)
theorem r47_88 (d : Nat) (st : List Value) (σ : am_St) (τ : Int64) (x : Nat) (v0 v2 v3 : Value) : am_run d 47 88 [v0, .ref x, v2, v3] st σ τ = am_run d 47 89 [v0, .ref x, v2, v3] (.ref x :: st) σ τ := rr_aload_n dX8_readInto_88 rfl
theorem r47_89 (d : Nat) (st : List Value) (σ : am_St) (τ : Int64) (x : Nat) (v1 v2 v3 : Value) : am_run d 47 89 [.ref x, v1, v2, v3] st σ τ = am_run d 47 90 [.ref x, v1, v2, v3] (.ref x :: st) σ τ := rr_aload_n dX8_readInto_89 rfl
theorem r47_90 (d : Nat) (ls st : List Value) (σ : am_St) (τ : Int64) (k : Nat) : am_run d 47 90 ls (.ref k :: st) σ τ = am_gf k 8 0 σ τ (fun v => am_run d 47 93 ls (v :: st) σ τ) := rr_getf dX8_readInto_90 (by decide +kernel)
theorem r47_93 (d : Nat) (st : List Value) (σ : am_St) (τ : Int64) (x : Int32) (v0 v1 v2 : Value) : am_run d 47 93 [v0, v1, v2, .int x] st σ τ = am_run d 47 94 [v0, v1, v2, .int x] (.int x :: st) σ τ := rr_iload_n dX8_readInto_93 rfl
theorem r47_94 (d : Nat) (ls st : List Value) (σ : am_St) (τ : Int64) (i : Int32) (k : Nat) : am_run d 47 94 ls (.int i :: .ref k :: st) σ τ = am_ai false k i (fun j => am_run d 47 95 ls (.int (σ k j) :: st) σ τ) := rr_iald dX8_readInto_94
theorem r47_95 (d : Nat) (ls st : List Value) (σ : am_St) (τ : Int64) : am_run d 47 95 ls st σ τ = am_run d 47 97 ls (.int 48 :: st) σ τ := rr_bipush 48 dX8_readInto_95 (by decide)
theorem r47_97 (d : Nat) (ls st : List Value) (σ : am_St) (τ : Int64) (x y : Int32) : am_run d 47 97 ls (.int y :: .int x :: st) σ τ = am_run d 47 98 ls (.int (x - y) :: st) σ τ := rr_isub dX8_readInto_97
theorem r47_98 (d : Nat) (ls st : List Value) (σ : am_St) (τ : Int64) (k : Nat) (x : Int32) : am_run d 47 98 ls (.int x :: .ref k :: st) σ τ = am_pf k 4 1 x σ (fun σ => am_run d 47 101 ls st σ τ) := rr_putf dX8_readInto_98 (by decide +kernel)
theorem r47_101 (d : Nat) (ls st : List Value) (σ : am_St) (τ : Int64) : am_run d 47 101 ls st σ τ = am_run d 47 136 ls st σ τ := rr_goto 136 dX8_readInto_101 (by decide)
theorem r47_104 (d : Nat) (st : List Value) (σ : am_St) (τ : Int64) (x : Nat) (v0 v2 v3 : Value) : am_run d 47 104 [v0, .ref x, v2, v3] st σ τ = am_run d 47 105 [v0, .ref x, v2, v3] (.ref x :: st) σ τ := rr_aload_n dX8_readInto_104 rfl
theorem r47_105 (d : Nat) (st : List Value) (σ : am_St) (τ : Int64) (x : Nat) (v1 v2 v3 : Value) : am_run d 47 105 [.ref x, v1, v2, v3] st σ τ = am_run d 47 106 [.ref x, v1, v2, v3] (.ref x :: st) σ τ := rr_aload_n dX8_readInto_105 rfl
theorem r47_106 (d : Nat) (ls st : List Value) (σ : am_St) (τ : Int64) (k : Nat) : am_run d 47 106 ls (.ref k :: st) σ τ = am_gf k 8 0 σ τ (fun v => am_run d 47 109 ls (v :: st) σ τ) := rr_getf dX8_readInto_106 (by decide +kernel)
theorem r47_109 (d : Nat) (st : List Value) (σ : am_St) (τ : Int64) (x : Int32) (v0 v1 v2 : Value) : am_run d 47 109 [v0, v1, v2, .int x] st σ τ = am_run d 47 110 [v0, v1, v2, .int x] (.int x :: st) σ τ := rr_iload_n dX8_readInto_109 rfl
theorem r47_110 (d : Nat) (ls st : List Value) (σ : am_St) (τ : Int64) (i : Int32) (k : Nat) : am_run d 47 110 ls (.int i :: .ref k :: st) σ τ = am_ai false k i (fun j => am_run d 47 111 ls (.int (σ k j) :: st) σ τ) := rr_iald dX8_readInto_110
theorem r47_111 (d : Nat) (ls st : List Value) (σ : am_St) (τ : Int64) (a0 : Int32) (hc : am_cats st ≤ 8) : am_run (d + 1) 47 111 ls (.int a0 :: st) σ τ = (am_call d 50 [.int a0] σ τ).bind (fun r => am_run (d + 1) 47 114 ls (r.1.toList ++ st) r.2.1 r.2.2) := rr_invs [.int a0] dX8_readInto_111 (by decide +kernel) (by decide +kernel) (by decide) rfl (Nat.le_of_ble_eq_true rfl) hc
theorem r47_114 (d : Nat) (ls st : List Value) (σ : am_St) (τ : Int64) (k : Nat) (x : Int32) : am_run d 47 114 ls (.int x :: .ref k :: st) σ τ = am_pf k 4 2 x σ (fun σ => am_run d 47 117 ls st σ τ) := rr_putf dX8_readInto_114 (by decide +kernel)
theorem r47_117 (d : Nat) (ls st : List Value) (σ : am_St) (τ : Int64) : am_run d 47 117 ls st σ τ = am_run d 47 136 ls st σ τ := rr_goto 136 dX8_readInto_117 (by decide)
theorem r47_120 (d : Nat) (st : List Value) (σ : am_St) (τ : Int64) (x : Nat) (v0 v2 v3 : Value) : am_run d 47 120 [v0, .ref x, v2, v3] st σ τ = am_run d 47 121 [v0, .ref x, v2, v3] (.ref x :: st) σ τ := rr_aload_n dX8_readInto_120 rfl
theorem r47_121 (d : Nat) (st : List Value) (σ : am_St) (τ : Int64) (x : Nat) (v1 v2 v3 : Value) : am_run d 47 121 [.ref x, v1, v2, v3] st σ τ = am_run d 47 122 [.ref x, v1, v2, v3] (.ref x :: st) σ τ := rr_aload_n dX8_readInto_121 rfl
theorem r47_122 (d : Nat) (ls st : List Value) (σ : am_St) (τ : Int64) (k : Nat) : am_run d 47 122 ls (.ref k :: st) σ τ = am_gf k 8 0 σ τ (fun v => am_run d 47 125 ls (v :: st) σ τ) := rr_getf dX8_readInto_122 (by decide +kernel)
theorem r47_125 (d : Nat) (st : List Value) (σ : am_St) (τ : Int64) (x : Int32) (v0 v1 v2 : Value) : am_run d 47 125 [v0, v1, v2, .int x] st σ τ = am_run d 47 126 [v0, v1, v2, .int x] (.int x :: st) σ τ := rr_iload_n dX8_readInto_125 rfl
theorem r47_126 (d : Nat) (ls st : List Value) (σ : am_St) (τ : Int64) (i : Int32) (k : Nat) : am_run d 47 126 ls (.int i :: .ref k :: st) σ τ = am_ai false k i (fun j => am_run d 47 127 ls (.int (σ k j) :: st) σ τ) := rr_iald dX8_readInto_126
theorem r47_127 (d : Nat) (ls st : List Value) (σ : am_St) (τ : Int64) (a0 : Int32) (hc : am_cats st ≤ 8) : am_run (d + 1) 47 127 ls (.int a0 :: st) σ τ = (am_call d 50 [.int a0] σ τ).bind (fun r => am_run (d + 1) 47 130 ls (r.1.toList ++ st) r.2.1 r.2.2) := rr_invs [.int a0] dX8_readInto_127 (by decide +kernel) (by decide +kernel) (by decide) rfl (Nat.le_of_ble_eq_true rfl) hc
theorem r47_130 (d : Nat) (ls st : List Value) (σ : am_St) (τ : Int64) (k : Nat) (x : Int32) : am_run d 47 130 ls (.int x :: .ref k :: st) σ τ = am_pf k 4 3 x σ (fun σ => am_run d 47 133 ls st σ τ) := rr_putf dX8_readInto_130 (by decide +kernel)
theorem r47_133 (d : Nat) (ls st : List Value) (σ : am_St) (τ : Int64) : am_run d 47 133 ls st σ τ = am_run d 47 136 ls st σ τ := rr_goto 136 dX8_readInto_133 (by decide)
theorem r47_136 (d : Nat) (st : List Value) (σ : am_St) (τ : Int64) (x : Int32) (v0 v1 v2 : Value) : am_run d 47 136 [v0, v1, v2, .int x] st σ τ = am_run d 47 139 [v0, v1, am_nl v2, .int (x + 1)] st σ τ := rr_iinc 1 _ dX8_readInto_136 rfl (by decide) (by decide) (by first | rfl | (by_cases h : v2.category = 2 <;> simp [am_set1, am_nl, h]))
theorem r47_139 (d : Nat) (ls st : List Value) (σ : am_St) (τ : Int64) : am_run d 47 139 ls st σ τ = am_run d 47 19 ls st σ τ := rr_goto 19 dX8_readInto_139 (by decide)
theorem r47_142 (d : Nat) (ls : List Value) (σ : am_St) (τ : Int64) : am_run d 47 142 ls [] σ τ = some (none, σ, τ) := rr_vret dX8_readInto_142 rfl
theorem dX8_next_0 : decode (am_code 48) 0 = .ok (.iload_n 1, 1) := by decide +kernel
theorem dX8_next_1 : decode (am_code 48) 1 = .ok (.invokestatic 34, 3) := by decide +kernel
theorem dX8_next_4 : decode (am_code 48) 4 = .ok (.iconst (-1), 1) := by decide +kernel
theorem dX8_next_5 : decode (am_code 48) 5 = .ok (.if_icmp .eq 7, 3) := by decide +kernel
theorem dX8_next_8 : decode (am_code 48) 8 = .ok (.iconst 1, 1) := by decide +kernel
theorem dX8_next_9 : decode (am_code 48) 9 = .ok (.goto 4, 3) := by decide +kernel
theorem dX8_next_12 : decode (am_code 48) 12 = .ok (.iconst 0, 1) := by decide +kernel
theorem dX8_next_13 : decode (am_code 48) 13 = .ok (.istore_n 2, 1) := by decide +kernel
theorem dX8_next_14 : decode (am_code 48) 14 = .ok (.iload_n 0, 1) := by decide +kernel
theorem dX8_next_15 : decode (am_code 48) 15 = .ok (.tableswitch 98 0 4 #[33, 43, 66, 76, 88], 33) := by decide +kernel
theorem dX8_next_48 : decode (am_code 48) 48 = .ok (.iload_n 2, 1) := by decide +kernel
theorem dX8_next_49 : decode (am_code 48) 49 = .ok (.ifCond .eq 7, 3) := by decide +kernel
theorem dX8_next_52 : decode (am_code 48) 52 = .ok (.iconst 1, 1) := by decide +kernel
theorem dX8_next_53 : decode (am_code 48) 53 = .ok (.goto 4, 3) := by decide +kernel
theorem dX8_next_56 : decode (am_code 48) 56 = .ok (.iconst (-1), 1) := by decide +kernel
theorem dX8_next_57 : decode (am_code 48) 57 = .ok (.ireturn, 1) := by decide +kernel
theorem dX8_next_58 : decode (am_code 48) 58 = .ok (.iload_n 1, 1) := by decide +kernel
theorem dX8_next_59 : decode (am_code 48) 59 = .ok (.invokestatic 41, 3) := by decide +kernel
theorem dX8_next_62 : decode (am_code 48) 62 = .ok (.ifCond .eq 7, 3) := by decide +kernel
theorem dX8_next_65 : decode (am_code 48) 65 = .ok (.iconst 2, 1) := by decide +kernel
theorem dX8_next_66 : decode (am_code 48) 66 = .ok (.goto 14, 3) := by decide +kernel
theorem dX8_next_69 : decode (am_code 48) 69 = .ok (.iload_n 1, 1) := by decide +kernel
theorem dX8_next_70 : decode (am_code 48) 70 = .ok (.bipush 116, 2) := by decide +kernel
theorem dX8_next_72 : decode (am_code 48) 72 = .ok (.if_icmp .ne 7, 3) := by decide +kernel
theorem dX8_next_75 : decode (am_code 48) 75 = .ok (.iconst 4, 1) := by decide +kernel
theorem dX8_next_76 : decode (am_code 48) 76 = .ok (.goto 4, 3) := by decide +kernel
theorem dX8_next_79 : decode (am_code 48) 79 = .ok (.iconst (-1), 1) := by decide +kernel
theorem dX8_next_80 : decode (am_code 48) 80 = .ok (.ireturn, 1) := by decide +kernel
theorem dX8_next_81 : decode (am_code 48) 81 = .ok (.iload_n 2, 1) := by decide +kernel
theorem dX8_next_82 : decode (am_code 48) 82 = .ok (.ifCond .eq 7, 3) := by decide +kernel
theorem dX8_next_85 : decode (am_code 48) 85 = .ok (.iconst 3, 1) := by decide +kernel
theorem dX8_next_86 : decode (am_code 48) 86 = .ok (.goto 4, 3) := by decide +kernel
theorem dX8_next_89 : decode (am_code 48) 89 = .ok (.iconst (-1), 1) := by decide +kernel
theorem dX8_next_90 : decode (am_code 48) 90 = .ok (.ireturn, 1) := by decide +kernel
theorem dX8_next_91 : decode (am_code 48) 91 = .ok (.iload_n 1, 1) := by decide +kernel
theorem dX8_next_92 : decode (am_code 48) 92 = .ok (.bipush 116, 2) := by decide +kernel
theorem dX8_next_94 : decode (am_code 48) 94 = .ok (.if_icmp .ne 7, 3) := by decide +kernel
theorem dX8_next_97 : decode (am_code 48) 97 = .ok (.iconst 4, 1) := by decide +kernel
theorem dX8_next_98 : decode (am_code 48) 98 = .ok (.goto 4, 3) := by decide +kernel
theorem dX8_next_101 : decode (am_code 48) 101 = .ok (.iconst (-1), 1) := by decide +kernel
theorem dX8_next_102 : decode (am_code 48) 102 = .ok (.ireturn, 1) := by decide +kernel
theorem dX8_next_103 : decode (am_code 48) 103 = .ok (.iload_n 2, 1) := by decide +kernel
theorem dX8_next_104 : decode (am_code 48) 104 = .ok (.ifCond .eq 7, 3) := by decide +kernel
theorem dX8_next_107 : decode (am_code 48) 107 = .ok (.iconst 5, 1) := by decide +kernel
theorem dX8_next_108 : decode (am_code 48) 108 = .ok (.goto 4, 3) := by decide +kernel
theorem dX8_next_111 : decode (am_code 48) 111 = .ok (.iconst (-1), 1) := by decide +kernel
theorem dX8_next_112 : decode (am_code 48) 112 = .ok (.ireturn, 1) := by decide +kernel
theorem dX8_next_113 : decode (am_code 48) 113 = .ok (.iconst (-1), 1) := by decide +kernel
theorem dX8_next_114 : decode (am_code 48) 114 = .ok (.ireturn, 1) := by decide +kernel
theorem r48_0 (d : Nat) (st : List Value) (σ : am_St) (τ : Int64) (x : Int32) (v0 v2 : Value) : am_run d 48 0 [v0, .int x, v2] st σ τ = am_run d 48 1 [v0, .int x, v2] (.int x :: st) σ τ := rr_iload_n dX8_next_0 rfl
theorem r48_1 (d : Nat) (ls st : List Value) (σ : am_St) (τ : Int64) (a0 : Int32) (hc : am_cats st ≤ 8) : am_run (d + 1) 48 1 ls (.int a0 :: st) σ τ = (am_call d 50 [.int a0] σ τ).bind (fun r => am_run (d + 1) 48 4 ls (r.1.toList ++ st) r.2.1 r.2.2) := rr_invs [.int a0] dX8_next_1 (by decide +kernel) (by decide +kernel) (by decide) rfl (Nat.le_of_ble_eq_true rfl) hc
theorem r48_4 (d : Nat) (ls st : List Value) (σ : am_St) (τ : Int64) : am_run d 48 4 ls st σ τ = am_run d 48 5 ls (.int (-1) :: st) σ τ := rr_iconst (-1) dX8_next_4 (by decide)
theorem r48_5 (d : Nat) (ls st : List Value) (σ : am_St) (τ : Int64) (x y : Int32) : am_run d 48 5 ls (.int y :: .int x :: st) σ τ = if x = y then am_run d 48 12 ls st σ τ else am_run d 48 8 ls st σ τ := (rr_icmp 12 dX8_next_5 (by decide)).trans am_sel
theorem r48_8 (d : Nat) (ls st : List Value) (σ : am_St) (τ : Int64) : am_run d 48 8 ls st σ τ = am_run d 48 9 ls (.int 1 :: st) σ τ := rr_iconst 1 dX8_next_8 (by decide)
theorem r48_9 (d : Nat) (ls st : List Value) (σ : am_St) (τ : Int64) : am_run d 48 9 ls st σ τ = am_run d 48 13 ls st σ τ := rr_goto 13 dX8_next_9 (by decide)
theorem r48_12 (d : Nat) (ls st : List Value) (σ : am_St) (τ : Int64) : am_run d 48 12 ls st σ τ = am_run d 48 13 ls (.int 0 :: st) σ τ := rr_iconst 0 dX8_next_12 (by decide)
theorem r48_13 (d : Nat) (st : List Value) (σ : am_St) (τ : Int64) (x : Int32) (v0 v1 v2 : Value) : am_run d 48 13 [v0, v1, v2] (.int x :: st) σ τ = am_run d 48 14 [v0, am_nl v1, .int x] st σ τ := rr_istore_n _ dX8_next_13 (by decide) (by first | rfl | (by_cases h : v1.category = 2 <;> simp [am_set1, am_nl, h]))
theorem r48_14 (d : Nat) (st : List Value) (σ : am_St) (τ : Int64) (x : Int32) (v1 v2 : Value) : am_run d 48 14 [.int x, v1, v2] st σ τ = am_run d 48 15 [.int x, v1, v2] (.int x :: st) σ τ := rr_iload_n dX8_next_14 rfl
theorem r48_15 (d : Nat) (ls st : List Value) (σ : am_St) (τ : Int64) (x : Int32) : am_run d 48 15 ls (.int x :: st) σ τ = am_run d 48 (am_sw x 0 [48, 58, 81, 91, 103] 113) ls st σ τ := rr_tsw [48, 58, 81, 91, 103] 113 dX8_next_15 (by decide) (by decide) (by decide)
theorem r48_48 (d : Nat) (st : List Value) (σ : am_St) (τ : Int64) (x : Int32) (v0 v1 : Value) : am_run d 48 48 [v0, v1, .int x] st σ τ = am_run d 48 49 [v0, v1, .int x] (.int x :: st) σ τ := rr_iload_n dX8_next_48 rfl
theorem r48_49 (d : Nat) (ls st : List Value) (σ : am_St) (τ : Int64) (x : Int32) : am_run d 48 49 ls (.int x :: st) σ τ = if x = 0 then am_run d 48 56 ls st σ τ else am_run d 48 52 ls st σ τ := (rr_if 56 dX8_next_49 (by decide)).trans am_sel
theorem r48_52 (d : Nat) (ls st : List Value) (σ : am_St) (τ : Int64) : am_run d 48 52 ls st σ τ = am_run d 48 53 ls (.int 1 :: st) σ τ := rr_iconst 1 dX8_next_52 (by decide)
theorem r48_53 (d : Nat) (ls st : List Value) (σ : am_St) (τ : Int64) : am_run d 48 53 ls st σ τ = am_run d 48 57 ls st σ τ := rr_goto 57 dX8_next_53 (by decide)
theorem r48_56 (d : Nat) (ls st : List Value) (σ : am_St) (τ : Int64) : am_run d 48 56 ls st σ τ = am_run d 48 57 ls (.int (-1) :: st) σ τ := rr_iconst (-1) dX8_next_56 (by decide)
theorem r48_57 (d : Nat) (ls : List Value) (σ : am_St) (τ : Int64) (x : Int32) : am_run d 48 57 ls [.int x] σ τ = some (some (.int x), σ, τ) := rr_iret dX8_next_57 rfl
theorem r48_58 (d : Nat) (st : List Value) (σ : am_St) (τ : Int64) (x : Int32) (v0 v2 : Value) : am_run d 48 58 [v0, .int x, v2] st σ τ = am_run d 48 59 [v0, .int x, v2] (.int x :: st) σ τ := rr_iload_n dX8_next_58 rfl
theorem r48_59 (d : Nat) (ls st : List Value) (σ : am_St) (τ : Int64) (a0 : Int32) (hc : am_cats st ≤ 8) : am_run (d + 1) 48 59 ls (.int a0 :: st) σ τ = (am_call d 49 [.int a0] σ τ).bind (fun r => am_run (d + 1) 48 62 ls (r.1.toList ++ st) r.2.1 r.2.2) := rr_invs [.int a0] dX8_next_59 (by decide +kernel) (by decide +kernel) (by decide) rfl (Nat.le_of_ble_eq_true rfl) hc
theorem r48_62 (d : Nat) (ls st : List Value) (σ : am_St) (τ : Int64) (x : Int32) : am_run d 48 62 ls (.int x :: st) σ τ = if x = 0 then am_run d 48 69 ls st σ τ else am_run d 48 65 ls st σ τ := (rr_if 69 dX8_next_62 (by decide)).trans am_sel
theorem r48_65 (d : Nat) (ls st : List Value) (σ : am_St) (τ : Int64) : am_run d 48 65 ls st σ τ = am_run d 48 66 ls (.int 2 :: st) σ τ := rr_iconst 2 dX8_next_65 (by decide)
theorem r48_66 (d : Nat) (ls st : List Value) (σ : am_St) (τ : Int64) : am_run d 48 66 ls st σ τ = am_run d 48 80 ls st σ τ := rr_goto 80 dX8_next_66 (by decide)
theorem r48_69 (d : Nat) (st : List Value) (σ : am_St) (τ : Int64) (x : Int32) (v0 v2 : Value) : am_run d 48 69 [v0, .int x, v2] st σ τ = am_run d 48 70 [v0, .int x, v2] (.int x :: st) σ τ := rr_iload_n dX8_next_69 rfl
theorem r48_70 (d : Nat) (ls st : List Value) (σ : am_St) (τ : Int64) : am_run d 48 70 ls st σ τ = am_run d 48 72 ls (.int 116 :: st) σ τ := rr_bipush 116 dX8_next_70 (by decide)
theorem r48_72 (d : Nat) (ls st : List Value) (σ : am_St) (τ : Int64) (x y : Int32) : am_run d 48 72 ls (.int y :: .int x :: st) σ τ = if x = y then am_run d 48 75 ls st σ τ else am_run d 48 79 ls st σ τ := (rr_icmp 79 dX8_next_72 (by decide)).trans am_seln
theorem r48_75 (d : Nat) (ls st : List Value) (σ : am_St) (τ : Int64) : am_run d 48 75 ls st σ τ = am_run d 48 76 ls (.int 4 :: st) σ τ := rr_iconst 4 dX8_next_75 (by decide)
theorem r48_76 (d : Nat) (ls st : List Value) (σ : am_St) (τ : Int64) : am_run d 48 76 ls st σ τ = am_run d 48 80 ls st σ τ := rr_goto 80 dX8_next_76 (by decide)
theorem r48_79 (d : Nat) (ls st : List Value) (σ : am_St) (τ : Int64) : am_run d 48 79 ls st σ τ = am_run d 48 80 ls (.int (-1) :: st) σ τ := rr_iconst (-1) dX8_next_79 (by decide)
theorem r48_80 (d : Nat) (ls : List Value) (σ : am_St) (τ : Int64) (x : Int32) : am_run d 48 80 ls [.int x] σ τ = some (some (.int x), σ, τ) := rr_iret dX8_next_80 rfl
theorem r48_81 (d : Nat) (st : List Value) (σ : am_St) (τ : Int64) (x : Int32) (v0 v1 : Value) : am_run d 48 81 [v0, v1, .int x] st σ τ = am_run d 48 82 [v0, v1, .int x] (.int x :: st) σ τ := rr_iload_n dX8_next_81 rfl
theorem r48_82 (d : Nat) (ls st : List Value) (σ : am_St) (τ : Int64) (x : Int32) : am_run d 48 82 ls (.int x :: st) σ τ = if x = 0 then am_run d 48 89 ls st σ τ else am_run d 48 85 ls st σ τ := (rr_if 89 dX8_next_82 (by decide)).trans am_sel
theorem r48_85 (d : Nat) (ls st : List Value) (σ : am_St) (τ : Int64) : am_run d 48 85 ls st σ τ = am_run d 48 86 ls (.int 3 :: st) σ τ := rr_iconst 3 dX8_next_85 (by decide)
theorem r48_86 (d : Nat) (ls st : List Value) (σ : am_St) (τ : Int64) : am_run d 48 86 ls st σ τ = am_run d 48 90 ls st σ τ := rr_goto 90 dX8_next_86 (by decide)
theorem r48_89 (d : Nat) (ls st : List Value) (σ : am_St) (τ : Int64) : am_run d 48 89 ls st σ τ = am_run d 48 90 ls (.int (-1) :: st) σ τ := rr_iconst (-1) dX8_next_89 (by decide)
theorem r48_90 (d : Nat) (ls : List Value) (σ : am_St) (τ : Int64) (x : Int32) : am_run d 48 90 ls [.int x] σ τ = some (some (.int x), σ, τ) := rr_iret dX8_next_90 rfl
theorem r48_91 (d : Nat) (st : List Value) (σ : am_St) (τ : Int64) (x : Int32) (v0 v2 : Value) : am_run d 48 91 [v0, .int x, v2] st σ τ = am_run d 48 92 [v0, .int x, v2] (.int x :: st) σ τ := rr_iload_n dX8_next_91 rfl
theorem r48_92 (d : Nat) (ls st : List Value) (σ : am_St) (τ : Int64) : am_run d 48 92 ls st σ τ = am_run d 48 94 ls (.int 116 :: st) σ τ := rr_bipush 116 dX8_next_92 (by decide)
theorem r48_94 (d : Nat) (ls st : List Value) (σ : am_St) (τ : Int64) (x y : Int32) : am_run d 48 94 ls (.int y :: .int x :: st) σ τ = if x = y then am_run d 48 97 ls st σ τ else am_run d 48 101 ls st σ τ := (rr_icmp 101 dX8_next_94 (by decide)).trans am_seln
theorem r48_97 (d : Nat) (ls st : List Value) (σ : am_St) (τ : Int64) : am_run d 48 97 ls st σ τ = am_run d 48 98 ls (.int 4 :: st) σ τ := rr_iconst 4 dX8_next_97 (by decide)
theorem r48_98 (d : Nat) (ls st : List Value) (σ : am_St) (τ : Int64) : am_run d 48 98 ls st σ τ = am_run d 48 102 ls st σ τ := rr_goto 102 dX8_next_98 (by decide)
theorem r48_101 (d : Nat) (ls st : List Value) (σ : am_St) (τ : Int64) : am_run d 48 101 ls st σ τ = am_run d 48 102 ls (.int (-1) :: st) σ τ := rr_iconst (-1) dX8_next_101 (by decide)
theorem r48_102 (d : Nat) (ls : List Value) (σ : am_St) (τ : Int64) (x : Int32) : am_run d 48 102 ls [.int x] σ τ = some (some (.int x), σ, τ) := rr_iret dX8_next_102 rfl
theorem r48_103 (d : Nat) (st : List Value) (σ : am_St) (τ : Int64) (x : Int32) (v0 v1 : Value) : am_run d 48 103 [v0, v1, .int x] st σ τ = am_run d 48 104 [v0, v1, .int x] (.int x :: st) σ τ := rr_iload_n dX8_next_103 rfl
theorem r48_104 (d : Nat) (ls st : List Value) (σ : am_St) (τ : Int64) (x : Int32) : am_run d 48 104 ls (.int x :: st) σ τ = if x = 0 then am_run d 48 111 ls st σ τ else am_run d 48 107 ls st σ τ := (rr_if 111 dX8_next_104 (by decide)).trans am_sel
theorem r48_107 (d : Nat) (ls st : List Value) (σ : am_St) (τ : Int64) : am_run d 48 107 ls st σ τ = am_run d 48 108 ls (.int 5 :: st) σ τ := rr_iconst 5 dX8_next_107 (by decide)
theorem r48_108 (d : Nat) (ls st : List Value) (σ : am_St) (τ : Int64) : am_run d 48 108 ls st σ τ = am_run d 48 112 ls st σ τ := rr_goto 112 dX8_next_108 (by decide)
theorem r48_111 (d : Nat) (ls st : List Value) (σ : am_St) (τ : Int64) : am_run d 48 111 ls st σ τ = am_run d 48 112 ls (.int (-1) :: st) σ τ := rr_iconst (-1) dX8_next_111 (by decide)
theorem r48_112 (d : Nat) (ls : List Value) (σ : am_St) (τ : Int64) (x : Int32) : am_run d 48 112 ls [.int x] σ τ = some (some (.int x), σ, τ) := rr_iret dX8_next_112 rfl
theorem r48_113 (d : Nat) (ls st : List Value) (σ : am_St) (τ : Int64) : am_run d 48 113 ls st σ τ = am_run d 48 114 ls (.int (-1) :: st) σ τ := rr_iconst (-1) dX8_next_113 (by decide)
theorem r48_114 (d : Nat) (ls : List Value) (σ : am_St) (τ : Int64) (x : Int32) : am_run d 48 114 ls [.int x] σ τ = some (some (.int x), σ, τ) := rr_iret dX8_next_114 rfl
theorem dX8_isEvery_0 : decode (am_code 49) 0 = .ok (.iload_n 0, 1) := by decide +kernel
theorem dX8_isEvery_1 : decode (am_code 49) 1 = .ok (.bipush 50, 2) := by decide +kernel
theorem dX8_isEvery_3 : decode (am_code 49) 3 = .ok (.if_icmp .lt 13, 3) := by decide +kernel
theorem dX8_isEvery_6 : decode (am_code 49) 6 = .ok (.iload_n 0, 1) := by decide +kernel
theorem dX8_isEvery_7 : decode (am_code 49) 7 = .ok (.bipush 53, 2) := by decide +kernel
theorem dX8_isEvery_9 : decode (am_code 49) 9 = .ok (.if_icmp .gt 7, 3) := by decide +kernel
theorem dX8_isEvery_12 : decode (am_code 49) 12 = .ok (.iconst 1, 1) := by decide +kernel
theorem dX8_isEvery_13 : decode (am_code 49) 13 = .ok (.goto 4, 3) := by decide +kernel
theorem dX8_isEvery_16 : decode (am_code 49) 16 = .ok (.iconst 0, 1) := by decide +kernel
theorem dX8_isEvery_17 : decode (am_code 49) 17 = .ok (.ireturn, 1) := by decide +kernel
theorem r49_0 (d : Nat) (st : List Value) (σ : am_St) (τ : Int64) (x : Int32) : am_run d 49 0 [.int x] st σ τ = am_run d 49 1 [.int x] (.int x :: st) σ τ := rr_iload_n dX8_isEvery_0 rfl
theorem r49_1 (d : Nat) (ls st : List Value) (σ : am_St) (τ : Int64) : am_run d 49 1 ls st σ τ = am_run d 49 3 ls (.int 50 :: st) σ τ := rr_bipush 50 dX8_isEvery_1 (by decide)
theorem r49_3 (d : Nat) (ls st : List Value) (σ : am_St) (τ : Int64) (x y : Int32) : am_run d 49 3 ls (.int y :: .int x :: st) σ τ = if x < y then am_run d 49 16 ls st σ τ else am_run d 49 6 ls st σ τ := (rr_icmp 16 dX8_isEvery_3 (by decide)).trans am_sel
theorem r49_6 (d : Nat) (st : List Value) (σ : am_St) (τ : Int64) (x : Int32) : am_run d 49 6 [.int x] st σ τ = am_run d 49 7 [.int x] (.int x :: st) σ τ := rr_iload_n dX8_isEvery_6 rfl
theorem r49_7 (d : Nat) (ls st : List Value) (σ : am_St) (τ : Int64) : am_run d 49 7 ls st σ τ = am_run d 49 9 ls (.int 53 :: st) σ τ := rr_bipush 53 dX8_isEvery_7 (by decide)
theorem r49_9 (d : Nat) (ls st : List Value) (σ : am_St) (τ : Int64) (x y : Int32) : am_run d 49 9 ls (.int y :: .int x :: st) σ τ = if y < x then am_run d 49 16 ls st σ τ else am_run d 49 12 ls st σ τ := (rr_icmp 16 dX8_isEvery_9 (by decide)).trans am_sel
theorem r49_12 (d : Nat) (ls st : List Value) (σ : am_St) (τ : Int64) : am_run d 49 12 ls st σ τ = am_run d 49 13 ls (.int 1 :: st) σ τ := rr_iconst 1 dX8_isEvery_12 (by decide)
theorem r49_13 (d : Nat) (ls st : List Value) (σ : am_St) (τ : Int64) : am_run d 49 13 ls st σ τ = am_run d 49 17 ls st σ τ := rr_goto 17 dX8_isEvery_13 (by decide)
theorem r49_16 (d : Nat) (ls st : List Value) (σ : am_St) (τ : Int64) : am_run d 49 16 ls st σ τ = am_run d 49 17 ls (.int 0 :: st) σ τ := rr_iconst 0 dX8_isEvery_16 (by decide)
theorem r49_17 (d : Nat) (ls : List Value) (σ : am_St) (τ : Int64) (x : Int32) (hx : x = 0 ∨ x = 1) : am_run d 49 17 ls [.int x] σ τ = some (some (.int x), σ, τ) := rr_zret dX8_isEvery_17 rfl hx
theorem dX8_ruleOf_0 : decode (am_code 50) 0 = .ok (.iload_n 0, 1) := by decide +kernel
theorem dX8_ruleOf_1 : decode (am_code 50) 1 = .ok (.lookupswitch 51 #[(102, 43), (103, 47), (109, 45), (112, 49)], 43) := by decide +kernel
theorem dX8_ruleOf_44 : decode (am_code 50) 44 = .ok (.iconst 0, 1) := by decide +kernel
theorem dX8_ruleOf_45 : decode (am_code 50) 45 = .ok (.ireturn, 1) := by decide +kernel
theorem dX8_ruleOf_46 : decode (am_code 50) 46 = .ok (.iconst 1, 1) := by decide +kernel
theorem dX8_ruleOf_47 : decode (am_code 50) 47 = .ok (.ireturn, 1) := by decide +kernel
theorem dX8_ruleOf_48 : decode (am_code 50) 48 = .ok (.iconst 2, 1) := by decide +kernel
theorem dX8_ruleOf_49 : decode (am_code 50) 49 = .ok (.ireturn, 1) := by decide +kernel
theorem dX8_ruleOf_50 : decode (am_code 50) 50 = .ok (.iconst 3, 1) := by decide +kernel
theorem dX8_ruleOf_51 : decode (am_code 50) 51 = .ok (.ireturn, 1) := by decide +kernel
theorem dX8_ruleOf_52 : decode (am_code 50) 52 = .ok (.iconst (-1), 1) := by decide +kernel
theorem dX8_ruleOf_53 : decode (am_code 50) 53 = .ok (.ireturn, 1) := by decide +kernel
theorem r50_0 (d : Nat) (st : List Value) (σ : am_St) (τ : Int64) (x : Int32) : am_run d 50 0 [.int x] st σ τ = am_run d 50 1 [.int x] (.int x :: st) σ τ := rr_iload_n dX8_ruleOf_0 rfl
theorem r50_1 (d : Nat) (ls st : List Value) (σ : am_St) (τ : Int64) (x : Int32) : am_run d 50 1 ls (.int x :: st) σ τ = am_run d 50 (am_lsw x [(102, 44), (103, 48), (109, 46), (112, 50)] 52) ls st σ τ := rr_lsw [(102, 44), (103, 48), (109, 46), (112, 50)] 52 dX8_ruleOf_1 (by decide) (by decide) (by decide)
theorem r50_44 (d : Nat) (ls st : List Value) (σ : am_St) (τ : Int64) : am_run d 50 44 ls st σ τ = am_run d 50 45 ls (.int 0 :: st) σ τ := rr_iconst 0 dX8_ruleOf_44 (by decide)
theorem r50_45 (d : Nat) (ls : List Value) (σ : am_St) (τ : Int64) (x : Int32) : am_run d 50 45 ls [.int x] σ τ = some (some (.int x), σ, τ) := rr_iret dX8_ruleOf_45 rfl
theorem r50_46 (d : Nat) (ls st : List Value) (σ : am_St) (τ : Int64) : am_run d 50 46 ls st σ τ = am_run d 50 47 ls (.int 1 :: st) σ τ := rr_iconst 1 dX8_ruleOf_46 (by decide)
theorem r50_47 (d : Nat) (ls : List Value) (σ : am_St) (τ : Int64) (x : Int32) : am_run d 50 47 ls [.int x] σ τ = some (some (.int x), σ, τ) := rr_iret dX8_ruleOf_47 rfl
theorem r50_48 (d : Nat) (ls st : List Value) (σ : am_St) (τ : Int64) : am_run d 50 48 ls st σ τ = am_run d 50 49 ls (.int 2 :: st) σ τ := rr_iconst 2 dX8_ruleOf_48 (by decide)
theorem r50_49 (d : Nat) (ls : List Value) (σ : am_St) (τ : Int64) (x : Int32) : am_run d 50 49 ls [.int x] σ τ = some (some (.int x), σ, τ) := rr_iret dX8_ruleOf_49 rfl
theorem r50_50 (d : Nat) (ls st : List Value) (σ : am_St) (τ : Int64) : am_run d 50 50 ls st σ τ = am_run d 50 51 ls (.int 3 :: st) σ τ := rr_iconst 3 dX8_ruleOf_50 (by decide)
theorem r50_51 (d : Nat) (ls : List Value) (σ : am_St) (τ : Int64) (x : Int32) : am_run d 50 51 ls [.int x] σ τ = some (some (.int x), σ, τ) := rr_iret dX8_ruleOf_51 rfl
theorem r50_52 (d : Nat) (ls st : List Value) (σ : am_St) (τ : Int64) : am_run d 50 52 ls st σ τ = am_run d 50 53 ls (.int (-1) :: st) σ τ := rr_iconst (-1) dX8_ruleOf_52 (by decide)
theorem r50_53 (d : Nat) (ls : List Value) (σ : am_St) (τ : Int64) (x : Int32) : am_run d 50 53 ls [.int x] σ τ = some (some (.int x), σ, τ) := rr_iret dX8_ruleOf_53 rfl
theorem dX1_has_0 : decode (am_code 6) 0 = .ok (.iload_n 1, 1) := by decide +kernel
theorem dX1_has_1 : decode (am_code 6) 1 = .ok (.ifCond .lt 15, 3) := by decide +kernel
theorem dX1_has_4 : decode (am_code 6) 4 = .ok (.iload_n 1, 1) := by decide +kernel
theorem dX1_has_5 : decode (am_code 6) 5 = .ok (.aload_n 0, 1) := by decide +kernel
theorem dX1_has_6 : decode (am_code 6) 6 = .ok (.getfield 43, 3) := by decide +kernel
theorem dX1_has_9 : decode (am_code 6) 9 = .ok (.if_icmp .ge 7, 3) := by decide +kernel
theorem dX1_has_12 : decode (am_code 6) 12 = .ok (.iconst 1, 1) := by decide +kernel
theorem dX1_has_13 : decode (am_code 6) 13 = .ok (.goto 4, 3) := by decide +kernel
theorem dX1_has_16 : decode (am_code 6) 16 = .ok (.iconst 0, 1) := by decide +kernel
theorem dX1_has_17 : decode (am_code 6) 17 = .ok (.ireturn, 1) := by decide +kernel
theorem r6_0 (d : Nat) (st : List Value) (σ : am_St) (τ : Int64) (x : Int32) (v0 : Value) : am_run d 6 0 [v0, .int x] st σ τ = am_run d 6 1 [v0, .int x] (.int x :: st) σ τ := rr_iload_n dX1_has_0 rfl
theorem r6_1 (d : Nat) (ls st : List Value) (σ : am_St) (τ : Int64) (x : Int32) : am_run d 6 1 ls (.int x :: st) σ τ = if x < 0 then am_run d 6 16 ls st σ τ else am_run d 6 4 ls st σ τ := (rr_if 16 dX1_has_1 (by decide)).trans am_sel
theorem r6_4 (d : Nat) (st : List Value) (σ : am_St) (τ : Int64) (x : Int32) (v0 : Value) : am_run d 6 4 [v0, .int x] st σ τ = am_run d 6 5 [v0, .int x] (.int x :: st) σ τ := rr_iload_n dX1_has_4 rfl
theorem r6_5 (d : Nat) (st : List Value) (σ : am_St) (τ : Int64) (x : Nat) (v1 : Value) : am_run d 6 5 [.ref x, v1] st σ τ = am_run d 6 6 [.ref x, v1] (.ref x :: st) σ τ := rr_aload_n dX1_has_5 rfl
theorem r6_6 (d : Nat) (ls st : List Value) (σ : am_St) (τ : Int64) (k : Nat) : am_run d 6 6 ls (.ref k :: st) σ τ = am_gf k 1 0 σ τ (fun v => am_run d 6 9 ls (v :: st) σ τ) := rr_getf dX1_has_6 (by decide +kernel)
theorem r6_9 (d : Nat) (ls st : List Value) (σ : am_St) (τ : Int64) (x y : Int32) : am_run d 6 9 ls (.int y :: .int x :: st) σ τ = if y ≤ x then am_run d 6 16 ls st σ τ else am_run d 6 12 ls st σ τ := (rr_icmp 16 dX1_has_9 (by decide)).trans am_sel
theorem r6_12 (d : Nat) (ls st : List Value) (σ : am_St) (τ : Int64) : am_run d 6 12 ls st σ τ = am_run d 6 13 ls (.int 1 :: st) σ τ := rr_iconst 1 dX1_has_12 (by decide)
theorem r6_13 (d : Nat) (ls st : List Value) (σ : am_St) (τ : Int64) : am_run d 6 13 ls st σ τ = am_run d 6 17 ls st σ τ := rr_goto 17 dX1_has_13 (by decide)
theorem r6_16 (d : Nat) (ls st : List Value) (σ : am_St) (τ : Int64) : am_run d 6 16 ls st σ τ = am_run d 6 17 ls (.int 0 :: st) σ τ := rr_iconst 0 dX1_has_16 (by decide)
theorem r6_17 (d : Nat) (ls : List Value) (σ : am_St) (τ : Int64) (x : Int32) (hx : x = 0 ∨ x = 1) : am_run d 6 17 ls [.int x] σ τ = some (some (.int x), σ, τ) := rr_zret dX1_has_17 rfl hx
theorem dX1_isOfSex_0 : decode (am_code 7) 0 = .ok (.aload_n 0, 1) := by decide +kernel
theorem dX1_isOfSex_1 : decode (am_code 7) 1 = .ok (.iload_n 1, 1) := by decide +kernel
theorem dX1_isOfSex_2 : decode (am_code 7) 2 = .ok (.invokevirtual 47, 3) := by decide +kernel
theorem dX1_isOfSex_5 : decode (am_code 7) 5 = .ok (.ifCond .eq 17, 3) := by decide +kernel
theorem dX1_isOfSex_8 : decode (am_code 7) 8 = .ok (.aload_n 0, 1) := by decide +kernel
theorem dX1_isOfSex_9 : decode (am_code 7) 9 = .ok (.getfield 15, 3) := by decide +kernel
theorem dX1_isOfSex_12 : decode (am_code 7) 12 = .ok (.iload_n 1, 1) := by decide +kernel
theorem dX1_isOfSex_13 : decode (am_code 7) 13 = .ok (.iaload, 1) := by decide +kernel
theorem dX1_isOfSex_14 : decode (am_code 7) 14 = .ok (.iload_n 2, 1) := by decide +kernel
theorem dX1_isOfSex_15 : decode (am_code 7) 15 = .ok (.if_icmp .ne 7, 3) := by decide +kernel
theorem dX1_isOfSex_18 : decode (am_code 7) 18 = .ok (.iconst 1, 1) := by decide +kernel
theorem dX1_isOfSex_19 : decode (am_code 7) 19 = .ok (.goto 4, 3) := by decide +kernel
theorem dX1_isOfSex_22 : decode (am_code 7) 22 = .ok (.iconst 0, 1) := by decide +kernel
theorem dX1_isOfSex_23 : decode (am_code 7) 23 = .ok (.ireturn, 1) := by decide +kernel
theorem r7_0 (d : Nat) (st : List Value) (σ : am_St) (τ : Int64) (x : Nat) (v1 v2 : Value) : am_run d 7 0 [.ref x, v1, v2] st σ τ = am_run d 7 1 [.ref x, v1, v2] (.ref x :: st) σ τ := rr_aload_n dX1_isOfSex_0 rfl
theorem r7_1 (d : Nat) (st : List Value) (σ : am_St) (τ : Int64) (x : Int32) (v0 v2 : Value) : am_run d 7 1 [v0, .int x, v2] st σ τ = am_run d 7 2 [v0, .int x, v2] (.int x :: st) σ τ := rr_iload_n dX1_isOfSex_1 rfl
theorem r7_2 (d : Nat) (ls st : List Value) (σ : am_St) (τ : Int64) (k : Nat) (a0 : Int32) (hk : am_kc k = 1) (hc : am_cats st ≤ 8) : am_run (d + 1) 7 2 ls (.int a0 :: .ref k :: st) σ τ = (am_call d 6 [.ref k, .int a0] σ τ).bind (fun r => am_run (d + 1) 7 5 ls (r.1.toList ++ st) r.2.1 r.2.2) := rr_invv [.int a0] dX1_isOfSex_2 (by decide +kernel) (by decide) rfl (Nat.le_of_ble_eq_true rfl) hk hc
theorem r7_5 (d : Nat) (ls st : List Value) (σ : am_St) (τ : Int64) (x : Int32) : am_run d 7 5 ls (.int x :: st) σ τ = if x = 0 then am_run d 7 22 ls st σ τ else am_run d 7 8 ls st σ τ := (rr_if 22 dX1_isOfSex_5 (by decide)).trans am_sel
theorem r7_8 (d : Nat) (st : List Value) (σ : am_St) (τ : Int64) (x : Nat) (v1 v2 : Value) : am_run d 7 8 [.ref x, v1, v2] st σ τ = am_run d 7 9 [.ref x, v1, v2] (.ref x :: st) σ τ := rr_aload_n dX1_isOfSex_8 rfl
theorem r7_9 (d : Nat) (ls st : List Value) (σ : am_St) (τ : Int64) (k : Nat) : am_run d 7 9 ls (.ref k :: st) σ τ = am_gf k 1 2 σ τ (fun v => am_run d 7 12 ls (v :: st) σ τ) := rr_getf dX1_isOfSex_9 (by decide +kernel)
theorem r7_12 (d : Nat) (st : List Value) (σ : am_St) (τ : Int64) (x : Int32) (v0 v2 : Value) : am_run d 7 12 [v0, .int x, v2] st σ τ = am_run d 7 13 [v0, .int x, v2] (.int x :: st) σ τ := rr_iload_n dX1_isOfSex_12 rfl
theorem r7_13 (d : Nat) (ls st : List Value) (σ : am_St) (τ : Int64) (i : Int32) (k : Nat) : am_run d 7 13 ls (.int i :: .ref k :: st) σ τ = am_ai false k i (fun j => am_run d 7 14 ls (.int (σ k j) :: st) σ τ) := rr_iald dX1_isOfSex_13
theorem r7_14 (d : Nat) (st : List Value) (σ : am_St) (τ : Int64) (x : Int32) (v0 v1 : Value) : am_run d 7 14 [v0, v1, .int x] st σ τ = am_run d 7 15 [v0, v1, .int x] (.int x :: st) σ τ := rr_iload_n dX1_isOfSex_14 rfl
theorem r7_15 (d : Nat) (ls st : List Value) (σ : am_St) (τ : Int64) (x y : Int32) : am_run d 7 15 ls (.int y :: .int x :: st) σ τ = if x = y then am_run d 7 18 ls st σ τ else am_run d 7 22 ls st σ τ := (rr_icmp 22 dX1_isOfSex_15 (by decide)).trans am_seln
theorem r7_18 (d : Nat) (ls st : List Value) (σ : am_St) (τ : Int64) : am_run d 7 18 ls st σ τ = am_run d 7 19 ls (.int 1 :: st) σ τ := rr_iconst 1 dX1_isOfSex_18 (by decide)
theorem r7_19 (d : Nat) (ls st : List Value) (σ : am_St) (τ : Int64) : am_run d 7 19 ls st σ τ = am_run d 7 23 ls st σ τ := rr_goto 23 dX1_isOfSex_19 (by decide)
theorem r7_22 (d : Nat) (ls st : List Value) (σ : am_St) (τ : Int64) : am_run d 7 22 ls st σ τ = am_run d 7 23 ls (.int 0 :: st) σ τ := rr_iconst 0 dX1_isOfSex_22 (by decide)
theorem r7_23 (d : Nat) (ls : List Value) (σ : am_St) (τ : Int64) (x : Int32) (hx : x = 0 ∨ x = 1) : am_run d 7 23 ls [.int x] σ τ = some (some (.int x), σ, τ) := rr_zret dX1_isOfSex_23 rfl hx
theorem dX1_isFounder_0 : decode (am_code 8) 0 = .ok (.aload_n 0, 1) := by decide +kernel
theorem dX1_isFounder_1 : decode (am_code 8) 1 = .ok (.getfield 18, 3) := by decide +kernel
theorem dX1_isFounder_4 : decode (am_code 8) 4 = .ok (.iload_n 1, 1) := by decide +kernel
theorem dX1_isFounder_5 : decode (am_code 8) 5 = .ok (.iaload, 1) := by decide +kernel
theorem dX1_isFounder_6 : decode (am_code 8) 6 = .ok (.ifCond .lt 12, 3) := by decide +kernel
theorem dX1_isFounder_9 : decode (am_code 8) 9 = .ok (.aload_n 0, 1) := by decide +kernel
theorem dX1_isFounder_10 : decode (am_code 8) 10 = .ok (.getfield 21, 3) := by decide +kernel
theorem dX1_isFounder_13 : decode (am_code 8) 13 = .ok (.iload_n 1, 1) := by decide +kernel
theorem dX1_isFounder_14 : decode (am_code 8) 14 = .ok (.iaload, 1) := by decide +kernel
theorem dX1_isFounder_15 : decode (am_code 8) 15 = .ok (.ifCond .ge 7, 3) := by decide +kernel
theorem dX1_isFounder_18 : decode (am_code 8) 18 = .ok (.iconst 1, 1) := by decide +kernel
theorem dX1_isFounder_19 : decode (am_code 8) 19 = .ok (.goto 4, 3) := by decide +kernel
theorem dX1_isFounder_22 : decode (am_code 8) 22 = .ok (.iconst 0, 1) := by decide +kernel
theorem dX1_isFounder_23 : decode (am_code 8) 23 = .ok (.ireturn, 1) := by decide +kernel
theorem r8_0 (d : Nat) (st : List Value) (σ : am_St) (τ : Int64) (x : Nat) (v1 : Value) : am_run d 8 0 [.ref x, v1] st σ τ = am_run d 8 1 [.ref x, v1] (.ref x :: st) σ τ := rr_aload_n dX1_isFounder_0 rfl
theorem r8_1 (d : Nat) (ls st : List Value) (σ : am_St) (τ : Int64) (k : Nat) : am_run d 8 1 ls (.ref k :: st) σ τ = am_gf k 1 3 σ τ (fun v => am_run d 8 4 ls (v :: st) σ τ) := rr_getf dX1_isFounder_1 (by decide +kernel)
theorem r8_4 (d : Nat) (st : List Value) (σ : am_St) (τ : Int64) (x : Int32) (v0 : Value) : am_run d 8 4 [v0, .int x] st σ τ = am_run d 8 5 [v0, .int x] (.int x :: st) σ τ := rr_iload_n dX1_isFounder_4 rfl
theorem r8_5 (d : Nat) (ls st : List Value) (σ : am_St) (τ : Int64) (i : Int32) (k : Nat) : am_run d 8 5 ls (.int i :: .ref k :: st) σ τ = am_ai false k i (fun j => am_run d 8 6 ls (.int (σ k j) :: st) σ τ) := rr_iald dX1_isFounder_5
theorem r8_6 (d : Nat) (ls st : List Value) (σ : am_St) (τ : Int64) (x : Int32) : am_run d 8 6 ls (.int x :: st) σ τ = if x < 0 then am_run d 8 18 ls st σ τ else am_run d 8 9 ls st σ τ := (rr_if 18 dX1_isFounder_6 (by decide)).trans am_sel
theorem r8_9 (d : Nat) (st : List Value) (σ : am_St) (τ : Int64) (x : Nat) (v1 : Value) : am_run d 8 9 [.ref x, v1] st σ τ = am_run d 8 10 [.ref x, v1] (.ref x :: st) σ τ := rr_aload_n dX1_isFounder_9 rfl
theorem r8_10 (d : Nat) (ls st : List Value) (σ : am_St) (τ : Int64) (k : Nat) : am_run d 8 10 ls (.ref k :: st) σ τ = am_gf k 1 4 σ τ (fun v => am_run d 8 13 ls (v :: st) σ τ) := rr_getf dX1_isFounder_10 (by decide +kernel)
theorem r8_13 (d : Nat) (st : List Value) (σ : am_St) (τ : Int64) (x : Int32) (v0 : Value) : am_run d 8 13 [v0, .int x] st σ τ = am_run d 8 14 [v0, .int x] (.int x :: st) σ τ := rr_iload_n dX1_isFounder_13 rfl
theorem r8_14 (d : Nat) (ls st : List Value) (σ : am_St) (τ : Int64) (i : Int32) (k : Nat) : am_run d 8 14 ls (.int i :: .ref k :: st) σ τ = am_ai false k i (fun j => am_run d 8 15 ls (.int (σ k j) :: st) σ τ) := rr_iald dX1_isFounder_14
theorem r8_15 (d : Nat) (ls st : List Value) (σ : am_St) (τ : Int64) (x : Int32) : am_run d 8 15 ls (.int x :: st) σ τ = if 0 ≤ x then am_run d 8 22 ls st σ τ else am_run d 8 18 ls st σ τ := (rr_if 22 dX1_isFounder_15 (by decide)).trans am_sel
theorem r8_18 (d : Nat) (ls st : List Value) (σ : am_St) (τ : Int64) : am_run d 8 18 ls st σ τ = am_run d 8 19 ls (.int 1 :: st) σ τ := rr_iconst 1 dX1_isFounder_18 (by decide)
theorem r8_19 (d : Nat) (ls st : List Value) (σ : am_St) (τ : Int64) : am_run d 8 19 ls st σ τ = am_run d 8 23 ls st σ τ := rr_goto 23 dX1_isFounder_19 (by decide)
theorem r8_22 (d : Nat) (ls st : List Value) (σ : am_St) (τ : Int64) : am_run d 8 22 ls st σ τ = am_run d 8 23 ls (.int 0 :: st) σ τ := rr_iconst 0 dX1_isFounder_22 (by decide)
theorem r8_23 (d : Nat) (ls : List Value) (σ : am_St) (τ : Int64) (x : Int32) (hx : x = 0 ∨ x = 1) : am_run d 8 23 ls [.int x] σ τ = some (some (.int x), σ, τ) := rr_zret dX1_isFounder_23 rfl hx
theorem dX1_fitsAsFather_0 : decode (am_code 9) 0 = .ok (.iload_n 1, 1) := by decide +kernel
theorem dX1_fitsAsFather_1 : decode (am_code 9) 1 = .ok (.bipush (-2), 2) := by decide +kernel
theorem dX1_fitsAsFather_3 : decode (am_code 9) 3 = .ok (.if_icmp .ne 19, 3) := by decide +kernel
theorem dX1_fitsAsFather_6 : decode (am_code 9) 6 = .ok (.aload_n 0, 1) := by decide +kernel
theorem dX1_fitsAsFather_7 : decode (am_code 9) 7 = .ok (.invokevirtual 51, 3) := by decide +kernel
theorem dX1_fitsAsFather_10 : decode (am_code 9) 10 = .ok (.iconst (-1), 1) := by decide +kernel
theorem dX1_fitsAsFather_11 : decode (am_code 9) 11 = .ok (.if_icmp .eq 7, 3) := by decide +kernel
theorem dX1_fitsAsFather_14 : decode (am_code 9) 14 = .ok (.iconst 1, 1) := by decide +kernel
theorem dX1_fitsAsFather_15 : decode (am_code 9) 15 = .ok (.goto 13, 3) := by decide +kernel
theorem dX1_fitsAsFather_18 : decode (am_code 9) 18 = .ok (.iconst 0, 1) := by decide +kernel
theorem dX1_fitsAsFather_19 : decode (am_code 9) 19 = .ok (.goto 9, 3) := by decide +kernel
theorem dX1_fitsAsFather_22 : decode (am_code 9) 22 = .ok (.aload_n 0, 1) := by decide +kernel
theorem dX1_fitsAsFather_23 : decode (am_code 9) 23 = .ok (.iload_n 1, 1) := by decide +kernel
theorem dX1_fitsAsFather_24 : decode (am_code 9) 24 = .ok (.iconst 0, 1) := by decide +kernel
theorem dX1_fitsAsFather_25 : decode (am_code 9) 25 = .ok (.invokevirtual 55, 3) := by decide +kernel
theorem dX1_fitsAsFather_28 : decode (am_code 9) 28 = .ok (.ireturn, 1) := by decide +kernel
theorem r9_0 (d : Nat) (st : List Value) (σ : am_St) (τ : Int64) (x : Int32) (v0 : Value) : am_run d 9 0 [v0, .int x] st σ τ = am_run d 9 1 [v0, .int x] (.int x :: st) σ τ := rr_iload_n dX1_fitsAsFather_0 rfl
theorem r9_1 (d : Nat) (ls st : List Value) (σ : am_St) (τ : Int64) : am_run d 9 1 ls st σ τ = am_run d 9 3 ls (.int (-2) :: st) σ τ := rr_bipush (-2) dX1_fitsAsFather_1 (by decide)
theorem r9_3 (d : Nat) (ls st : List Value) (σ : am_St) (τ : Int64) (x y : Int32) : am_run d 9 3 ls (.int y :: .int x :: st) σ τ = if x = y then am_run d 9 6 ls st σ τ else am_run d 9 22 ls st σ τ := (rr_icmp 22 dX1_fitsAsFather_3 (by decide)).trans am_seln
theorem r9_6 (d : Nat) (st : List Value) (σ : am_St) (τ : Int64) (x : Nat) (v1 : Value) : am_run d 9 6 [.ref x, v1] st σ τ = am_run d 9 7 [.ref x, v1] (.ref x :: st) σ τ := rr_aload_n dX1_fitsAsFather_6 rfl
theorem r9_7 (d : Nat) (ls st : List Value) (σ : am_St) (τ : Int64) (k : Nat)  (hk : am_kc k = 1) (hc : am_cats st ≤ 8) : am_run (d + 1) 9 7 ls (.ref k :: st) σ τ = (am_call d 10 [.ref k] σ τ).bind (fun r => am_run (d + 1) 9 10 ls (r.1.toList ++ st) r.2.1 r.2.2) := rr_invv [] dX1_fitsAsFather_7 (by decide +kernel) (by decide) rfl (Nat.le_of_ble_eq_true rfl) hk hc
theorem r9_10 (d : Nat) (ls st : List Value) (σ : am_St) (τ : Int64) : am_run d 9 10 ls st σ τ = am_run d 9 11 ls (.int (-1) :: st) σ τ := rr_iconst (-1) dX1_fitsAsFather_10 (by decide)
theorem r9_11 (d : Nat) (ls st : List Value) (σ : am_St) (τ : Int64) (x y : Int32) : am_run d 9 11 ls (.int y :: .int x :: st) σ τ = if x = y then am_run d 9 18 ls st σ τ else am_run d 9 14 ls st σ τ := (rr_icmp 18 dX1_fitsAsFather_11 (by decide)).trans am_sel
theorem r9_14 (d : Nat) (ls st : List Value) (σ : am_St) (τ : Int64) : am_run d 9 14 ls st σ τ = am_run d 9 15 ls (.int 1 :: st) σ τ := rr_iconst 1 dX1_fitsAsFather_14 (by decide)
theorem r9_15 (d : Nat) (ls st : List Value) (σ : am_St) (τ : Int64) : am_run d 9 15 ls st σ τ = am_run d 9 28 ls st σ τ := rr_goto 28 dX1_fitsAsFather_15 (by decide)
theorem r9_18 (d : Nat) (ls st : List Value) (σ : am_St) (τ : Int64) : am_run d 9 18 ls st σ τ = am_run d 9 19 ls (.int 0 :: st) σ τ := rr_iconst 0 dX1_fitsAsFather_18 (by decide)
theorem r9_19 (d : Nat) (ls st : List Value) (σ : am_St) (τ : Int64) : am_run d 9 19 ls st σ τ = am_run d 9 28 ls st σ τ := rr_goto 28 dX1_fitsAsFather_19 (by decide)
theorem r9_22 (d : Nat) (st : List Value) (σ : am_St) (τ : Int64) (x : Nat) (v1 : Value) : am_run d 9 22 [.ref x, v1] st σ τ = am_run d 9 23 [.ref x, v1] (.ref x :: st) σ τ := rr_aload_n dX1_fitsAsFather_22 rfl
theorem r9_23 (d : Nat) (st : List Value) (σ : am_St) (τ : Int64) (x : Int32) (v0 : Value) : am_run d 9 23 [v0, .int x] st σ τ = am_run d 9 24 [v0, .int x] (.int x :: st) σ τ := rr_iload_n dX1_fitsAsFather_23 rfl
theorem r9_24 (d : Nat) (ls st : List Value) (σ : am_St) (τ : Int64) : am_run d 9 24 ls st σ τ = am_run d 9 25 ls (.int 0 :: st) σ τ := rr_iconst 0 dX1_fitsAsFather_24 (by decide)
theorem r9_25 (d : Nat) (ls st : List Value) (σ : am_St) (τ : Int64) (k : Nat) (a0 : Int32) (a1 : Int32) (hk : am_kc k = 1) (hc : am_cats st ≤ 8) : am_run (d + 1) 9 25 ls (.int a1 :: .int a0 :: .ref k :: st) σ τ = (am_call d 7 [.ref k, .int a0, .int a1] σ τ).bind (fun r => am_run (d + 1) 9 28 ls (r.1.toList ++ st) r.2.1 r.2.2) := rr_invv [.int a0, .int a1] dX1_fitsAsFather_25 (by decide +kernel) (by decide) rfl (Nat.le_of_ble_eq_true rfl) hk hc
theorem r9_28 (d : Nat) (ls : List Value) (σ : am_St) (τ : Int64) (x : Int32) (hx : x = 0 ∨ x = 1) : am_run d 9 28 ls [.int x] σ τ = some (some (.int x), σ, τ) := rr_zret dX1_fitsAsFather_28 rfl hx
theorem dX1_leastMan_0 : decode (am_code 10) 0 = .ok (.iconst 0, 1) := by decide +kernel
theorem dX1_leastMan_1 : decode (am_code 10) 1 = .ok (.istore_n 1, 1) := by decide +kernel
theorem dX1_leastMan_2 : decode (am_code 10) 2 = .ok (.iload_n 1, 1) := by decide +kernel
theorem dX1_leastMan_3 : decode (am_code 10) 3 = .ok (.aload_n 0, 1) := by decide +kernel
theorem dX1_leastMan_4 : decode (am_code 10) 4 = .ok (.getfield 43, 3) := by decide +kernel
theorem dX1_leastMan_7 : decode (am_code 10) 7 = .ok (.if_icmp .ge 20, 3) := by decide +kernel
theorem dX1_leastMan_10 : decode (am_code 10) 10 = .ok (.aload_n 0, 1) := by decide +kernel
theorem dX1_leastMan_11 : decode (am_code 10) 11 = .ok (.getfield 15, 3) := by decide +kernel
theorem dX1_leastMan_14 : decode (am_code 10) 14 = .ok (.iload_n 1, 1) := by decide +kernel
theorem dX1_leastMan_15 : decode (am_code 10) 15 = .ok (.iaload, 1) := by decide +kernel
theorem dX1_leastMan_16 : decode (am_code 10) 16 = .ok (.ifCond .ne 5, 3) := by decide +kernel
theorem dX1_leastMan_19 : decode (am_code 10) 19 = .ok (.iload_n 1, 1) := by decide +kernel
theorem dX1_leastMan_20 : decode (am_code 10) 20 = .ok (.ireturn, 1) := by decide +kernel
theorem dX1_leastMan_21 : decode (am_code 10) 21 = .ok (.iinc 1 1, 3) := by decide +kernel
theorem dX1_leastMan_24 : decode (am_code 10) 24 = .ok (.goto (-22), 3) := by decide +kernel
theorem dX1_leastMan_27 : decode (am_code 10) 27 = .ok (.iconst (-1), 1) := by decide +kernel
theorem dX1_leastMan_28 : decode (am_code 10) 28 = .ok (.ireturn, 1) := by decide +kernel
theorem r10_0 (d : Nat) (ls st : List Value) (σ : am_St) (τ : Int64) : am_run d 10 0 ls st σ τ = am_run d 10 1 ls (.int 0 :: st) σ τ := rr_iconst 0 dX1_leastMan_0 (by decide)
theorem r10_1 (d : Nat) (st : List Value) (σ : am_St) (τ : Int64) (x : Int32) (v0 v1 : Value) : am_run d 10 1 [v0, v1] (.int x :: st) σ τ = am_run d 10 2 [am_nl v0, .int x] st σ τ := rr_istore_n _ dX1_leastMan_1 (by decide) (by first | rfl | (by_cases h : v0.category = 2 <;> simp [am_set1, am_nl, h]))
theorem r10_2 (d : Nat) (st : List Value) (σ : am_St) (τ : Int64) (x : Int32) (v0 : Value) : am_run d 10 2 [v0, .int x] st σ τ = am_run d 10 3 [v0, .int x] (.int x :: st) σ τ := rr_iload_n dX1_leastMan_2 rfl
theorem r10_3 (d : Nat) (st : List Value) (σ : am_St) (τ : Int64) (x : Nat) (v1 : Value) : am_run d 10 3 [.ref x, v1] st σ τ = am_run d 10 4 [.ref x, v1] (.ref x :: st) σ τ := rr_aload_n dX1_leastMan_3 rfl
theorem r10_4 (d : Nat) (ls st : List Value) (σ : am_St) (τ : Int64) (k : Nat) : am_run d 10 4 ls (.ref k :: st) σ τ = am_gf k 1 0 σ τ (fun v => am_run d 10 7 ls (v :: st) σ τ) := rr_getf dX1_leastMan_4 (by decide +kernel)
theorem r10_7 (d : Nat) (ls st : List Value) (σ : am_St) (τ : Int64) (x y : Int32) : am_run d 10 7 ls (.int y :: .int x :: st) σ τ = if y ≤ x then am_run d 10 27 ls st σ τ else am_run d 10 10 ls st σ τ := (rr_icmp 27 dX1_leastMan_7 (by decide)).trans am_sel
theorem r10_10 (d : Nat) (st : List Value) (σ : am_St) (τ : Int64) (x : Nat) (v1 : Value) : am_run d 10 10 [.ref x, v1] st σ τ = am_run d 10 11 [.ref x, v1] (.ref x :: st) σ τ := rr_aload_n dX1_leastMan_10 rfl
theorem r10_11 (d : Nat) (ls st : List Value) (σ : am_St) (τ : Int64) (k : Nat) : am_run d 10 11 ls (.ref k :: st) σ τ = am_gf k 1 2 σ τ (fun v => am_run d 10 14 ls (v :: st) σ τ) := rr_getf dX1_leastMan_11 (by decide +kernel)
theorem r10_14 (d : Nat) (st : List Value) (σ : am_St) (τ : Int64) (x : Int32) (v0 : Value) : am_run d 10 14 [v0, .int x] st σ τ = am_run d 10 15 [v0, .int x] (.int x :: st) σ τ := rr_iload_n dX1_leastMan_14 rfl
theorem r10_15 (d : Nat) (ls st : List Value) (σ : am_St) (τ : Int64) (i : Int32) (k : Nat) : am_run d 10 15 ls (.int i :: .ref k :: st) σ τ = am_ai false k i (fun j => am_run d 10 16 ls (.int (σ k j) :: st) σ τ) := rr_iald dX1_leastMan_15
theorem r10_16 (d : Nat) (ls st : List Value) (σ : am_St) (τ : Int64) (x : Int32) : am_run d 10 16 ls (.int x :: st) σ τ = if x = 0 then am_run d 10 19 ls st σ τ else am_run d 10 21 ls st σ τ := (rr_if 21 dX1_leastMan_16 (by decide)).trans am_seln
theorem r10_19 (d : Nat) (st : List Value) (σ : am_St) (τ : Int64) (x : Int32) (v0 : Value) : am_run d 10 19 [v0, .int x] st σ τ = am_run d 10 20 [v0, .int x] (.int x :: st) σ τ := rr_iload_n dX1_leastMan_19 rfl
theorem r10_20 (d : Nat) (ls : List Value) (σ : am_St) (τ : Int64) (x : Int32) : am_run d 10 20 ls [.int x] σ τ = some (some (.int x), σ, τ) := rr_iret dX1_leastMan_20 rfl
theorem r10_21 (d : Nat) (st : List Value) (σ : am_St) (τ : Int64) (x : Int32) (v0 : Value) : am_run d 10 21 [v0, .int x] st σ τ = am_run d 10 24 [am_nl v0, .int (x + 1)] st σ τ := rr_iinc 1 _ dX1_leastMan_21 rfl (by decide) (by decide) (by first | rfl | (by_cases h : v0.category = 2 <;> simp [am_set1, am_nl, h]))
theorem r10_24 (d : Nat) (ls st : List Value) (σ : am_St) (τ : Int64) : am_run d 10 24 ls st σ τ = am_run d 10 2 ls st σ τ := rr_goto 2 dX1_leastMan_24 (by decide)
theorem r10_27 (d : Nat) (ls st : List Value) (σ : am_St) (τ : Int64) : am_run d 10 27 ls st σ τ = am_run d 10 28 ls (.int (-1) :: st) σ τ := rr_iconst (-1) dX1_leastMan_27 (by decide)
theorem r10_28 (d : Nat) (ls : List Value) (σ : am_St) (τ : Int64) (x : Int32) : am_run d 10 28 ls [.int x] σ τ = some (some (.int x), σ, τ) := rr_iret dX1_leastMan_28 rfl
theorem dX1_gaps_0 : decode (am_code 11) 0 = .ok (.iconst 0, 1) := by decide +kernel
theorem dX1_gaps_1 : decode (am_code 11) 1 = .ok (.istore_n 1, 1) := by decide +kernel
theorem dX1_gaps_2 : decode (am_code 11) 2 = .ok (.iconst 0, 1) := by decide +kernel
theorem dX1_gaps_3 : decode (am_code 11) 3 = .ok (.istore_n 2, 1) := by decide +kernel
theorem dX1_gaps_4 : decode (am_code 11) 4 = .ok (.iload_n 2, 1) := by decide +kernel
theorem dX1_gaps_5 : decode (am_code 11) 5 = .ok (.aload_n 0, 1) := by decide +kernel
theorem dX1_gaps_6 : decode (am_code 11) 6 = .ok (.getfield 43, 3) := by decide +kernel
theorem dX1_gaps_9 : decode (am_code 11) 9 = .ok (.if_icmp .ge 26, 3) := by decide +kernel
theorem dX1_gaps_12 : decode (am_code 11) 12 = .ok (.iload_n 1, 1) := by decide +kernel
theorem dX1_gaps_13 : decode (am_code 11) 13 = .ok (.aload_n 0, 1) := by decide +kernel
theorem dX1_gaps_14 : decode (am_code 11) 14 = .ok (.getfield 24, 3) := by decide +kernel
theorem dX1_gaps_17 : decode (am_code 11) 17 = .ok (.iload_n 2, 1) := by decide +kernel
theorem dX1_gaps_18 : decode (am_code 11) 18 = .ok (.baload, 1) := by decide +kernel
theorem dX1_gaps_19 : decode (am_code 11) 19 = .ok (.ifCond .eq 7, 3) := by decide +kernel
theorem dX1_gaps_22 : decode (am_code 11) 22 = .ok (.iconst 1, 1) := by decide +kernel
theorem dX1_gaps_23 : decode (am_code 11) 23 = .ok (.goto 4, 3) := by decide +kernel
theorem dX1_gaps_26 : decode (am_code 11) 26 = .ok (.iconst 0, 1) := by decide +kernel
theorem dX1_gaps_27 : decode (am_code 11) 27 = .ok (.iadd, 1) := by decide +kernel
theorem dX1_gaps_28 : decode (am_code 11) 28 = .ok (.istore_n 1, 1) := by decide +kernel
theorem dX1_gaps_29 : decode (am_code 11) 29 = .ok (.iinc 2 1, 3) := by decide +kernel
theorem dX1_gaps_32 : decode (am_code 11) 32 = .ok (.goto (-28), 3) := by decide +kernel
theorem dX1_gaps_35 : decode (am_code 11) 35 = .ok (.iload_n 1, 1) := by decide +kernel
theorem dX1_gaps_36 : decode (am_code 11) 36 = .ok (.ireturn, 1) := by decide +kernel
theorem r11_0 (d : Nat) (ls st : List Value) (σ : am_St) (τ : Int64) : am_run d 11 0 ls st σ τ = am_run d 11 1 ls (.int 0 :: st) σ τ := rr_iconst 0 dX1_gaps_0 (by decide)
theorem r11_1 (d : Nat) (st : List Value) (σ : am_St) (τ : Int64) (x : Int32) (v0 v1 v2 : Value) : am_run d 11 1 [v0, v1, v2] (.int x :: st) σ τ = am_run d 11 2 [am_nl v0, .int x, v2] st σ τ := rr_istore_n _ dX1_gaps_1 (by decide) (by first | rfl | (by_cases h : v0.category = 2 <;> simp [am_set1, am_nl, h]))
theorem r11_2 (d : Nat) (ls st : List Value) (σ : am_St) (τ : Int64) : am_run d 11 2 ls st σ τ = am_run d 11 3 ls (.int 0 :: st) σ τ := rr_iconst 0 dX1_gaps_2 (by decide)
theorem r11_3 (d : Nat) (st : List Value) (σ : am_St) (τ : Int64) (x : Int32) (v0 v1 v2 : Value) : am_run d 11 3 [v0, v1, v2] (.int x :: st) σ τ = am_run d 11 4 [v0, am_nl v1, .int x] st σ τ := rr_istore_n _ dX1_gaps_3 (by decide) (by first | rfl | (by_cases h : v1.category = 2 <;> simp [am_set1, am_nl, h]))
theorem r11_4 (d : Nat) (st : List Value) (σ : am_St) (τ : Int64) (x : Int32) (v0 v1 : Value) : am_run d 11 4 [v0, v1, .int x] st σ τ = am_run d 11 5 [v0, v1, .int x] (.int x :: st) σ τ := rr_iload_n dX1_gaps_4 rfl
theorem r11_5 (d : Nat) (st : List Value) (σ : am_St) (τ : Int64) (x : Nat) (v1 v2 : Value) : am_run d 11 5 [.ref x, v1, v2] st σ τ = am_run d 11 6 [.ref x, v1, v2] (.ref x :: st) σ τ := rr_aload_n dX1_gaps_5 rfl
theorem r11_6 (d : Nat) (ls st : List Value) (σ : am_St) (τ : Int64) (k : Nat) : am_run d 11 6 ls (.ref k :: st) σ τ = am_gf k 1 0 σ τ (fun v => am_run d 11 9 ls (v :: st) σ τ) := rr_getf dX1_gaps_6 (by decide +kernel)
theorem r11_9 (d : Nat) (ls st : List Value) (σ : am_St) (τ : Int64) (x y : Int32) : am_run d 11 9 ls (.int y :: .int x :: st) σ τ = if y ≤ x then am_run d 11 35 ls st σ τ else am_run d 11 12 ls st σ τ := (rr_icmp 35 dX1_gaps_9 (by decide)).trans am_sel
theorem r11_12 (d : Nat) (st : List Value) (σ : am_St) (τ : Int64) (x : Int32) (v0 v2 : Value) : am_run d 11 12 [v0, .int x, v2] st σ τ = am_run d 11 13 [v0, .int x, v2] (.int x :: st) σ τ := rr_iload_n dX1_gaps_12 rfl
theorem r11_13 (d : Nat) (st : List Value) (σ : am_St) (τ : Int64) (x : Nat) (v1 v2 : Value) : am_run d 11 13 [.ref x, v1, v2] st σ τ = am_run d 11 14 [.ref x, v1, v2] (.ref x :: st) σ τ := rr_aload_n dX1_gaps_13 rfl
theorem r11_14 (d : Nat) (ls st : List Value) (σ : am_St) (τ : Int64) (k : Nat) : am_run d 11 14 ls (.ref k :: st) σ τ = am_gf k 1 5 σ τ (fun v => am_run d 11 17 ls (v :: st) σ τ) := rr_getf dX1_gaps_14 (by decide +kernel)
theorem r11_17 (d : Nat) (st : List Value) (σ : am_St) (τ : Int64) (x : Int32) (v0 v1 : Value) : am_run d 11 17 [v0, v1, .int x] st σ τ = am_run d 11 18 [v0, v1, .int x] (.int x :: st) σ τ := rr_iload_n dX1_gaps_17 rfl
theorem r11_18 (d : Nat) (ls st : List Value) (σ : am_St) (τ : Int64) (i : Int32) (k : Nat) : am_run d 11 18 ls (.int i :: .ref k :: st) σ τ = am_ai true k i (fun j => am_run d 11 19 ls (.int (σ k j) :: st) σ τ) := rr_bald dX1_gaps_18
theorem r11_19 (d : Nat) (ls st : List Value) (σ : am_St) (τ : Int64) (x : Int32) : am_run d 11 19 ls (.int x :: st) σ τ = if x = 0 then am_run d 11 26 ls st σ τ else am_run d 11 22 ls st σ τ := (rr_if 26 dX1_gaps_19 (by decide)).trans am_sel
theorem r11_22 (d : Nat) (ls st : List Value) (σ : am_St) (τ : Int64) : am_run d 11 22 ls st σ τ = am_run d 11 23 ls (.int 1 :: st) σ τ := rr_iconst 1 dX1_gaps_22 (by decide)
theorem r11_23 (d : Nat) (ls st : List Value) (σ : am_St) (τ : Int64) : am_run d 11 23 ls st σ τ = am_run d 11 27 ls st σ τ := rr_goto 27 dX1_gaps_23 (by decide)
theorem r11_26 (d : Nat) (ls st : List Value) (σ : am_St) (τ : Int64) : am_run d 11 26 ls st σ τ = am_run d 11 27 ls (.int 0 :: st) σ τ := rr_iconst 0 dX1_gaps_26 (by decide)
theorem r11_27 (d : Nat) (ls st : List Value) (σ : am_St) (τ : Int64) (x y : Int32) : am_run d 11 27 ls (.int y :: .int x :: st) σ τ = am_run d 11 28 ls (.int (x + y) :: st) σ τ := rr_iadd dX1_gaps_27
theorem r11_28 (d : Nat) (st : List Value) (σ : am_St) (τ : Int64) (x : Int32) (v0 v1 v2 : Value) : am_run d 11 28 [v0, v1, v2] (.int x :: st) σ τ = am_run d 11 29 [am_nl v0, .int x, v2] st σ τ := rr_istore_n _ dX1_gaps_28 (by decide) (by first | rfl | (by_cases h : v0.category = 2 <;> simp [am_set1, am_nl, h]))
theorem r11_29 (d : Nat) (st : List Value) (σ : am_St) (τ : Int64) (x : Int32) (v0 v1 : Value) : am_run d 11 29 [v0, v1, .int x] st σ τ = am_run d 11 32 [v0, am_nl v1, .int (x + 1)] st σ τ := rr_iinc 1 _ dX1_gaps_29 rfl (by decide) (by decide) (by first | rfl | (by_cases h : v1.category = 2 <;> simp [am_set1, am_nl, h]))
theorem r11_32 (d : Nat) (ls st : List Value) (σ : am_St) (τ : Int64) : am_run d 11 32 ls st σ τ = am_run d 11 4 ls st σ τ := rr_goto 4 dX1_gaps_32 (by decide)
theorem r11_35 (d : Nat) (st : List Value) (σ : am_St) (τ : Int64) (x : Int32) (v0 v2 : Value) : am_run d 11 35 [v0, .int x, v2] st σ τ = am_run d 11 36 [v0, .int x, v2] (.int x :: st) σ τ := rr_iload_n dX1_gaps_35 rfl
theorem r11_36 (d : Nat) (ls : List Value) (σ : am_St) (τ : Int64) (x : Int32) : am_run d 11 36 ls [.int x] σ τ = some (some (.int x), σ, τ) := rr_iret dX1_gaps_36 rfl
theorem dX1_living_0 : decode (am_code 12) 0 = .ok (.iconst 0, 1) := by decide +kernel
theorem dX1_living_1 : decode (am_code 12) 1 = .ok (.istore_n 1, 1) := by decide +kernel
theorem dX1_living_2 : decode (am_code 12) 2 = .ok (.iconst 0, 1) := by decide +kernel
theorem dX1_living_3 : decode (am_code 12) 3 = .ok (.istore_n 2, 1) := by decide +kernel
theorem dX1_living_4 : decode (am_code 12) 4 = .ok (.iload_n 2, 1) := by decide +kernel
theorem dX1_living_5 : decode (am_code 12) 5 = .ok (.aload_n 0, 1) := by decide +kernel
theorem dX1_living_6 : decode (am_code 12) 6 = .ok (.getfield 43, 3) := by decide +kernel
theorem dX1_living_9 : decode (am_code 12) 9 = .ok (.if_icmp .ge 26, 3) := by decide +kernel
theorem dX1_living_12 : decode (am_code 12) 12 = .ok (.iload_n 1, 1) := by decide +kernel
theorem dX1_living_13 : decode (am_code 12) 13 = .ok (.aload_n 0, 1) := by decide +kernel
theorem dX1_living_14 : decode (am_code 12) 14 = .ok (.getfield 37, 3) := by decide +kernel
theorem dX1_living_17 : decode (am_code 12) 17 = .ok (.iload_n 2, 1) := by decide +kernel
theorem dX1_living_18 : decode (am_code 12) 18 = .ok (.baload, 1) := by decide +kernel
theorem dX1_living_19 : decode (am_code 12) 19 = .ok (.ifCond .eq 7, 3) := by decide +kernel
theorem dX1_living_22 : decode (am_code 12) 22 = .ok (.iconst 1, 1) := by decide +kernel
theorem dX1_living_23 : decode (am_code 12) 23 = .ok (.goto 4, 3) := by decide +kernel
theorem dX1_living_26 : decode (am_code 12) 26 = .ok (.iconst 0, 1) := by decide +kernel
theorem dX1_living_27 : decode (am_code 12) 27 = .ok (.iadd, 1) := by decide +kernel
theorem dX1_living_28 : decode (am_code 12) 28 = .ok (.istore_n 1, 1) := by decide +kernel
theorem dX1_living_29 : decode (am_code 12) 29 = .ok (.iinc 2 1, 3) := by decide +kernel
theorem dX1_living_32 : decode (am_code 12) 32 = .ok (.goto (-28), 3) := by decide +kernel
theorem dX1_living_35 : decode (am_code 12) 35 = .ok (.iload_n 1, 1) := by decide +kernel
theorem dX1_living_36 : decode (am_code 12) 36 = .ok (.ireturn, 1) := by decide +kernel
theorem r12_0 (d : Nat) (ls st : List Value) (σ : am_St) (τ : Int64) : am_run d 12 0 ls st σ τ = am_run d 12 1 ls (.int 0 :: st) σ τ := rr_iconst 0 dX1_living_0 (by decide)
theorem r12_1 (d : Nat) (st : List Value) (σ : am_St) (τ : Int64) (x : Int32) (v0 v1 v2 : Value) : am_run d 12 1 [v0, v1, v2] (.int x :: st) σ τ = am_run d 12 2 [am_nl v0, .int x, v2] st σ τ := rr_istore_n _ dX1_living_1 (by decide) (by first | rfl | (by_cases h : v0.category = 2 <;> simp [am_set1, am_nl, h]))
theorem r12_2 (d : Nat) (ls st : List Value) (σ : am_St) (τ : Int64) : am_run d 12 2 ls st σ τ = am_run d 12 3 ls (.int 0 :: st) σ τ := rr_iconst 0 dX1_living_2 (by decide)
theorem r12_3 (d : Nat) (st : List Value) (σ : am_St) (τ : Int64) (x : Int32) (v0 v1 v2 : Value) : am_run d 12 3 [v0, v1, v2] (.int x :: st) σ τ = am_run d 12 4 [v0, am_nl v1, .int x] st σ τ := rr_istore_n _ dX1_living_3 (by decide) (by first | rfl | (by_cases h : v1.category = 2 <;> simp [am_set1, am_nl, h]))
theorem r12_4 (d : Nat) (st : List Value) (σ : am_St) (τ : Int64) (x : Int32) (v0 v1 : Value) : am_run d 12 4 [v0, v1, .int x] st σ τ = am_run d 12 5 [v0, v1, .int x] (.int x :: st) σ τ := rr_iload_n dX1_living_4 rfl
theorem r12_5 (d : Nat) (st : List Value) (σ : am_St) (τ : Int64) (x : Nat) (v1 v2 : Value) : am_run d 12 5 [.ref x, v1, v2] st σ τ = am_run d 12 6 [.ref x, v1, v2] (.ref x :: st) σ τ := rr_aload_n dX1_living_5 rfl
theorem r12_6 (d : Nat) (ls st : List Value) (σ : am_St) (τ : Int64) (k : Nat) : am_run d 12 6 ls (.ref k :: st) σ τ = am_gf k 1 0 σ τ (fun v => am_run d 12 9 ls (v :: st) σ τ) := rr_getf dX1_living_6 (by decide +kernel)
theorem r12_9 (d : Nat) (ls st : List Value) (σ : am_St) (τ : Int64) (x y : Int32) : am_run d 12 9 ls (.int y :: .int x :: st) σ τ = if y ≤ x then am_run d 12 35 ls st σ τ else am_run d 12 12 ls st σ τ := (rr_icmp 35 dX1_living_9 (by decide)).trans am_sel
theorem r12_12 (d : Nat) (st : List Value) (σ : am_St) (τ : Int64) (x : Int32) (v0 v2 : Value) : am_run d 12 12 [v0, .int x, v2] st σ τ = am_run d 12 13 [v0, .int x, v2] (.int x :: st) σ τ := rr_iload_n dX1_living_12 rfl
theorem r12_13 (d : Nat) (st : List Value) (σ : am_St) (τ : Int64) (x : Nat) (v1 v2 : Value) : am_run d 12 13 [.ref x, v1, v2] st σ τ = am_run d 12 14 [.ref x, v1, v2] (.ref x :: st) σ τ := rr_aload_n dX1_living_13 rfl
theorem r12_14 (d : Nat) (ls st : List Value) (σ : am_St) (τ : Int64) (k : Nat) : am_run d 12 14 ls (.ref k :: st) σ τ = am_gf k 1 9 σ τ (fun v => am_run d 12 17 ls (v :: st) σ τ) := rr_getf dX1_living_14 (by decide +kernel)
theorem r12_17 (d : Nat) (st : List Value) (σ : am_St) (τ : Int64) (x : Int32) (v0 v1 : Value) : am_run d 12 17 [v0, v1, .int x] st σ τ = am_run d 12 18 [v0, v1, .int x] (.int x :: st) σ τ := rr_iload_n dX1_living_17 rfl
theorem r12_18 (d : Nat) (ls st : List Value) (σ : am_St) (τ : Int64) (i : Int32) (k : Nat) : am_run d 12 18 ls (.int i :: .ref k :: st) σ τ = am_ai true k i (fun j => am_run d 12 19 ls (.int (σ k j) :: st) σ τ) := rr_bald dX1_living_18
theorem r12_19 (d : Nat) (ls st : List Value) (σ : am_St) (τ : Int64) (x : Int32) : am_run d 12 19 ls (.int x :: st) σ τ = if x = 0 then am_run d 12 26 ls st σ τ else am_run d 12 22 ls st σ τ := (rr_if 26 dX1_living_19 (by decide)).trans am_sel
theorem r12_22 (d : Nat) (ls st : List Value) (σ : am_St) (τ : Int64) : am_run d 12 22 ls st σ τ = am_run d 12 23 ls (.int 1 :: st) σ τ := rr_iconst 1 dX1_living_22 (by decide)
theorem r12_23 (d : Nat) (ls st : List Value) (σ : am_St) (τ : Int64) : am_run d 12 23 ls st σ τ = am_run d 12 27 ls st σ τ := rr_goto 27 dX1_living_23 (by decide)
theorem r12_26 (d : Nat) (ls st : List Value) (σ : am_St) (τ : Int64) : am_run d 12 26 ls st σ τ = am_run d 12 27 ls (.int 0 :: st) σ τ := rr_iconst 0 dX1_living_26 (by decide)
theorem r12_27 (d : Nat) (ls st : List Value) (σ : am_St) (τ : Int64) (x y : Int32) : am_run d 12 27 ls (.int y :: .int x :: st) σ τ = am_run d 12 28 ls (.int (x + y) :: st) σ τ := rr_iadd dX1_living_27
theorem r12_28 (d : Nat) (st : List Value) (σ : am_St) (τ : Int64) (x : Int32) (v0 v1 v2 : Value) : am_run d 12 28 [v0, v1, v2] (.int x :: st) σ τ = am_run d 12 29 [am_nl v0, .int x, v2] st σ τ := rr_istore_n _ dX1_living_28 (by decide) (by first | rfl | (by_cases h : v0.category = 2 <;> simp [am_set1, am_nl, h]))
theorem r12_29 (d : Nat) (st : List Value) (σ : am_St) (τ : Int64) (x : Int32) (v0 v1 : Value) : am_run d 12 29 [v0, v1, .int x] st σ τ = am_run d 12 32 [v0, am_nl v1, .int (x + 1)] st σ τ := rr_iinc 1 _ dX1_living_29 rfl (by decide) (by decide) (by first | rfl | (by_cases h : v1.category = 2 <;> simp [am_set1, am_nl, h]))
theorem r12_32 (d : Nat) (ls st : List Value) (σ : am_St) (τ : Int64) : am_run d 12 32 ls st σ τ = am_run d 12 4 ls st σ τ := rr_goto 4 dX1_living_32 (by decide)
theorem r12_35 (d : Nat) (st : List Value) (σ : am_St) (τ : Int64) (x : Int32) (v0 v2 : Value) : am_run d 12 35 [v0, .int x, v2] st σ τ = am_run d 12 36 [v0, .int x, v2] (.int x :: st) σ τ := rr_iload_n dX1_living_35 rfl
theorem r12_36 (d : Nat) (ls : List Value) (σ : am_St) (τ : Int64) (x : Int32) : am_run d 12 36 ls [.int x] σ τ = some (some (.int x), σ, τ) := rr_iret dX1_living_36 rfl
theorem dX1_entries_0 : decode (am_code 13) 0 = .ok (.iconst 0, 1) := by decide +kernel
theorem dX1_entries_1 : decode (am_code 13) 1 = .ok (.istore_n 1, 1) := by decide +kernel
theorem dX1_entries_2 : decode (am_code 13) 2 = .ok (.iconst 0, 1) := by decide +kernel
theorem dX1_entries_3 : decode (am_code 13) 3 = .ok (.istore_n 2, 1) := by decide +kernel
theorem dX1_entries_4 : decode (am_code 13) 4 = .ok (.iload_n 2, 1) := by decide +kernel
theorem dX1_entries_5 : decode (am_code 13) 5 = .ok (.aload_n 0, 1) := by decide +kernel
theorem dX1_entries_6 : decode (am_code 13) 6 = .ok (.getfield 43, 3) := by decide +kernel
theorem dX1_entries_9 : decode (am_code 13) 9 = .ok (.if_icmp .ge 27, 3) := by decide +kernel
theorem dX1_entries_12 : decode (am_code 13) 12 = .ok (.iload_n 1, 1) := by decide +kernel
theorem dX1_entries_13 : decode (am_code 13) 13 = .ok (.aload_n 0, 1) := by decide +kernel
theorem dX1_entries_14 : decode (am_code 13) 14 = .ok (.getfield 34, 3) := by decide +kernel
theorem dX1_entries_17 : decode (am_code 13) 17 = .ok (.iload_n 2, 1) := by decide +kernel
theorem dX1_entries_18 : decode (am_code 13) 18 = .ok (.iaload, 1) := by decide +kernel
theorem dX1_entries_19 : decode (am_code 13) 19 = .ok (.iconst (-1), 1) := by decide +kernel
theorem dX1_entries_20 : decode (am_code 13) 20 = .ok (.if_icmp .eq 7, 3) := by decide +kernel
theorem dX1_entries_23 : decode (am_code 13) 23 = .ok (.iconst 1, 1) := by decide +kernel
theorem dX1_entries_24 : decode (am_code 13) 24 = .ok (.goto 4, 3) := by decide +kernel
theorem dX1_entries_27 : decode (am_code 13) 27 = .ok (.iconst 0, 1) := by decide +kernel
theorem dX1_entries_28 : decode (am_code 13) 28 = .ok (.iadd, 1) := by decide +kernel
theorem dX1_entries_29 : decode (am_code 13) 29 = .ok (.istore_n 1, 1) := by decide +kernel
theorem dX1_entries_30 : decode (am_code 13) 30 = .ok (.iinc 2 1, 3) := by decide +kernel
theorem dX1_entries_33 : decode (am_code 13) 33 = .ok (.goto (-29), 3) := by decide +kernel
theorem dX1_entries_36 : decode (am_code 13) 36 = .ok (.iload_n 1, 1) := by decide +kernel
theorem dX1_entries_37 : decode (am_code 13) 37 = .ok (.ireturn, 1) := by decide +kernel
theorem r13_0 (d : Nat) (ls st : List Value) (σ : am_St) (τ : Int64) : am_run d 13 0 ls st σ τ = am_run d 13 1 ls (.int 0 :: st) σ τ := rr_iconst 0 dX1_entries_0 (by decide)
theorem r13_1 (d : Nat) (st : List Value) (σ : am_St) (τ : Int64) (x : Int32) (v0 v1 v2 : Value) : am_run d 13 1 [v0, v1, v2] (.int x :: st) σ τ = am_run d 13 2 [am_nl v0, .int x, v2] st σ τ := rr_istore_n _ dX1_entries_1 (by decide) (by first | rfl | (by_cases h : v0.category = 2 <;> simp [am_set1, am_nl, h]))
theorem r13_2 (d : Nat) (ls st : List Value) (σ : am_St) (τ : Int64) : am_run d 13 2 ls st σ τ = am_run d 13 3 ls (.int 0 :: st) σ τ := rr_iconst 0 dX1_entries_2 (by decide)
theorem r13_3 (d : Nat) (st : List Value) (σ : am_St) (τ : Int64) (x : Int32) (v0 v1 v2 : Value) : am_run d 13 3 [v0, v1, v2] (.int x :: st) σ τ = am_run d 13 4 [v0, am_nl v1, .int x] st σ τ := rr_istore_n _ dX1_entries_3 (by decide) (by first | rfl | (by_cases h : v1.category = 2 <;> simp [am_set1, am_nl, h]))
theorem r13_4 (d : Nat) (st : List Value) (σ : am_St) (τ : Int64) (x : Int32) (v0 v1 : Value) : am_run d 13 4 [v0, v1, .int x] st σ τ = am_run d 13 5 [v0, v1, .int x] (.int x :: st) σ τ := rr_iload_n dX1_entries_4 rfl
theorem r13_5 (d : Nat) (st : List Value) (σ : am_St) (τ : Int64) (x : Nat) (v1 v2 : Value) : am_run d 13 5 [.ref x, v1, v2] st σ τ = am_run d 13 6 [.ref x, v1, v2] (.ref x :: st) σ τ := rr_aload_n dX1_entries_5 rfl
theorem r13_6 (d : Nat) (ls st : List Value) (σ : am_St) (τ : Int64) (k : Nat) : am_run d 13 6 ls (.ref k :: st) σ τ = am_gf k 1 0 σ τ (fun v => am_run d 13 9 ls (v :: st) σ τ) := rr_getf dX1_entries_6 (by decide +kernel)
theorem r13_9 (d : Nat) (ls st : List Value) (σ : am_St) (τ : Int64) (x y : Int32) : am_run d 13 9 ls (.int y :: .int x :: st) σ τ = if y ≤ x then am_run d 13 36 ls st σ τ else am_run d 13 12 ls st σ τ := (rr_icmp 36 dX1_entries_9 (by decide)).trans am_sel
theorem r13_12 (d : Nat) (st : List Value) (σ : am_St) (τ : Int64) (x : Int32) (v0 v2 : Value) : am_run d 13 12 [v0, .int x, v2] st σ τ = am_run d 13 13 [v0, .int x, v2] (.int x :: st) σ τ := rr_iload_n dX1_entries_12 rfl
theorem r13_13 (d : Nat) (st : List Value) (σ : am_St) (τ : Int64) (x : Nat) (v1 v2 : Value) : am_run d 13 13 [.ref x, v1, v2] st σ τ = am_run d 13 14 [.ref x, v1, v2] (.ref x :: st) σ τ := rr_aload_n dX1_entries_13 rfl
theorem r13_14 (d : Nat) (ls st : List Value) (σ : am_St) (τ : Int64) (k : Nat) : am_run d 13 14 ls (.ref k :: st) σ τ = am_gf k 1 8 σ τ (fun v => am_run d 13 17 ls (v :: st) σ τ) := rr_getf dX1_entries_14 (by decide +kernel)
theorem r13_17 (d : Nat) (st : List Value) (σ : am_St) (τ : Int64) (x : Int32) (v0 v1 : Value) : am_run d 13 17 [v0, v1, .int x] st σ τ = am_run d 13 18 [v0, v1, .int x] (.int x :: st) σ τ := rr_iload_n dX1_entries_17 rfl
theorem r13_18 (d : Nat) (ls st : List Value) (σ : am_St) (τ : Int64) (i : Int32) (k : Nat) : am_run d 13 18 ls (.int i :: .ref k :: st) σ τ = am_ai false k i (fun j => am_run d 13 19 ls (.int (σ k j) :: st) σ τ) := rr_iald dX1_entries_18
theorem r13_19 (d : Nat) (ls st : List Value) (σ : am_St) (τ : Int64) : am_run d 13 19 ls st σ τ = am_run d 13 20 ls (.int (-1) :: st) σ τ := rr_iconst (-1) dX1_entries_19 (by decide)
theorem r13_20 (d : Nat) (ls st : List Value) (σ : am_St) (τ : Int64) (x y : Int32) : am_run d 13 20 ls (.int y :: .int x :: st) σ τ = if x = y then am_run d 13 27 ls st σ τ else am_run d 13 23 ls st σ τ := (rr_icmp 27 dX1_entries_20 (by decide)).trans am_sel
theorem r13_23 (d : Nat) (ls st : List Value) (σ : am_St) (τ : Int64) : am_run d 13 23 ls st σ τ = am_run d 13 24 ls (.int 1 :: st) σ τ := rr_iconst 1 dX1_entries_23 (by decide)
theorem r13_24 (d : Nat) (ls st : List Value) (σ : am_St) (τ : Int64) : am_run d 13 24 ls st σ τ = am_run d 13 28 ls st σ τ := rr_goto 28 dX1_entries_24 (by decide)
theorem r13_27 (d : Nat) (ls st : List Value) (σ : am_St) (τ : Int64) : am_run d 13 27 ls st σ τ = am_run d 13 28 ls (.int 0 :: st) σ τ := rr_iconst 0 dX1_entries_27 (by decide)
theorem r13_28 (d : Nat) (ls st : List Value) (σ : am_St) (τ : Int64) (x y : Int32) : am_run d 13 28 ls (.int y :: .int x :: st) σ τ = am_run d 13 29 ls (.int (x + y) :: st) σ τ := rr_iadd dX1_entries_28
theorem r13_29 (d : Nat) (st : List Value) (σ : am_St) (τ : Int64) (x : Int32) (v0 v1 v2 : Value) : am_run d 13 29 [v0, v1, v2] (.int x :: st) σ τ = am_run d 13 30 [am_nl v0, .int x, v2] st σ τ := rr_istore_n _ dX1_entries_29 (by decide) (by first | rfl | (by_cases h : v0.category = 2 <;> simp [am_set1, am_nl, h]))
theorem r13_30 (d : Nat) (st : List Value) (σ : am_St) (τ : Int64) (x : Int32) (v0 v1 : Value) : am_run d 13 30 [v0, v1, .int x] st σ τ = am_run d 13 33 [v0, am_nl v1, .int (x + 1)] st σ τ := rr_iinc 1 _ dX1_entries_30 rfl (by decide) (by decide) (by first | rfl | (by_cases h : v1.category = 2 <;> simp [am_set1, am_nl, h]))
theorem r13_33 (d : Nat) (ls st : List Value) (σ : am_St) (τ : Int64) : am_run d 13 33 ls st σ τ = am_run d 13 4 ls st σ τ := rr_goto 4 dX1_entries_33 (by decide)
theorem r13_36 (d : Nat) (st : List Value) (σ : am_St) (τ : Int64) (x : Int32) (v0 v2 : Value) : am_run d 13 36 [v0, .int x, v2] st σ τ = am_run d 13 37 [v0, .int x, v2] (.int x :: st) σ τ := rr_iload_n dX1_entries_36 rfl
theorem r13_37 (d : Nat) (ls : List Value) (σ : am_St) (τ : Int64) (x : Int32) : am_run d 13 37 ls [.int x] σ τ = some (some (.int x), σ, τ) := rr_iret dX1_entries_37 rfl
theorem dX1_founders_0 : decode (am_code 14) 0 = .ok (.iconst 0, 1) := by decide +kernel
theorem dX1_founders_1 : decode (am_code 14) 1 = .ok (.istore_n 1, 1) := by decide +kernel
theorem dX1_founders_2 : decode (am_code 14) 2 = .ok (.iconst 0, 1) := by decide +kernel
theorem dX1_founders_3 : decode (am_code 14) 3 = .ok (.istore_n 2, 1) := by decide +kernel
theorem dX1_founders_4 : decode (am_code 14) 4 = .ok (.iload_n 2, 1) := by decide +kernel
theorem dX1_founders_5 : decode (am_code 14) 5 = .ok (.aload_n 0, 1) := by decide +kernel
theorem dX1_founders_6 : decode (am_code 14) 6 = .ok (.getfield 43, 3) := by decide +kernel
theorem dX1_founders_9 : decode (am_code 14) 9 = .ok (.if_icmp .ge 25, 3) := by decide +kernel
theorem dX1_founders_12 : decode (am_code 14) 12 = .ok (.iload_n 1, 1) := by decide +kernel
theorem dX1_founders_13 : decode (am_code 14) 13 = .ok (.aload_n 0, 1) := by decide +kernel
theorem dX1_founders_14 : decode (am_code 14) 14 = .ok (.iload_n 2, 1) := by decide +kernel
theorem dX1_founders_15 : decode (am_code 14) 15 = .ok (.invokevirtual 59, 3) := by decide +kernel
theorem dX1_founders_18 : decode (am_code 14) 18 = .ok (.ifCond .eq 7, 3) := by decide +kernel
theorem dX1_founders_21 : decode (am_code 14) 21 = .ok (.iconst 1, 1) := by decide +kernel
theorem dX1_founders_22 : decode (am_code 14) 22 = .ok (.goto 4, 3) := by decide +kernel
theorem dX1_founders_25 : decode (am_code 14) 25 = .ok (.iconst 0, 1) := by decide +kernel
theorem dX1_founders_26 : decode (am_code 14) 26 = .ok (.iadd, 1) := by decide +kernel
theorem dX1_founders_27 : decode (am_code 14) 27 = .ok (.istore_n 1, 1) := by decide +kernel
theorem dX1_founders_28 : decode (am_code 14) 28 = .ok (.iinc 2 1, 3) := by decide +kernel
theorem dX1_founders_31 : decode (am_code 14) 31 = .ok (.goto (-27), 3) := by decide +kernel
theorem dX1_founders_34 : decode (am_code 14) 34 = .ok (.iload_n 1, 1) := by decide +kernel
theorem dX1_founders_35 : decode (am_code 14) 35 = .ok (.ireturn, 1) := by decide +kernel
theorem r14_0 (d : Nat) (ls st : List Value) (σ : am_St) (τ : Int64) : am_run d 14 0 ls st σ τ = am_run d 14 1 ls (.int 0 :: st) σ τ := rr_iconst 0 dX1_founders_0 (by decide)
theorem r14_1 (d : Nat) (st : List Value) (σ : am_St) (τ : Int64) (x : Int32) (v0 v1 v2 : Value) : am_run d 14 1 [v0, v1, v2] (.int x :: st) σ τ = am_run d 14 2 [am_nl v0, .int x, v2] st σ τ := rr_istore_n _ dX1_founders_1 (by decide) (by first | rfl | (by_cases h : v0.category = 2 <;> simp [am_set1, am_nl, h]))
theorem r14_2 (d : Nat) (ls st : List Value) (σ : am_St) (τ : Int64) : am_run d 14 2 ls st σ τ = am_run d 14 3 ls (.int 0 :: st) σ τ := rr_iconst 0 dX1_founders_2 (by decide)
theorem r14_3 (d : Nat) (st : List Value) (σ : am_St) (τ : Int64) (x : Int32) (v0 v1 v2 : Value) : am_run d 14 3 [v0, v1, v2] (.int x :: st) σ τ = am_run d 14 4 [v0, am_nl v1, .int x] st σ τ := rr_istore_n _ dX1_founders_3 (by decide) (by first | rfl | (by_cases h : v1.category = 2 <;> simp [am_set1, am_nl, h]))
theorem r14_4 (d : Nat) (st : List Value) (σ : am_St) (τ : Int64) (x : Int32) (v0 v1 : Value) : am_run d 14 4 [v0, v1, .int x] st σ τ = am_run d 14 5 [v0, v1, .int x] (.int x :: st) σ τ := rr_iload_n dX1_founders_4 rfl
theorem r14_5 (d : Nat) (st : List Value) (σ : am_St) (τ : Int64) (x : Nat) (v1 v2 : Value) : am_run d 14 5 [.ref x, v1, v2] st σ τ = am_run d 14 6 [.ref x, v1, v2] (.ref x :: st) σ τ := rr_aload_n dX1_founders_5 rfl
theorem r14_6 (d : Nat) (ls st : List Value) (σ : am_St) (τ : Int64) (k : Nat) : am_run d 14 6 ls (.ref k :: st) σ τ = am_gf k 1 0 σ τ (fun v => am_run d 14 9 ls (v :: st) σ τ) := rr_getf dX1_founders_6 (by decide +kernel)
theorem r14_9 (d : Nat) (ls st : List Value) (σ : am_St) (τ : Int64) (x y : Int32) : am_run d 14 9 ls (.int y :: .int x :: st) σ τ = if y ≤ x then am_run d 14 34 ls st σ τ else am_run d 14 12 ls st σ τ := (rr_icmp 34 dX1_founders_9 (by decide)).trans am_sel
theorem r14_12 (d : Nat) (st : List Value) (σ : am_St) (τ : Int64) (x : Int32) (v0 v2 : Value) : am_run d 14 12 [v0, .int x, v2] st σ τ = am_run d 14 13 [v0, .int x, v2] (.int x :: st) σ τ := rr_iload_n dX1_founders_12 rfl
theorem r14_13 (d : Nat) (st : List Value) (σ : am_St) (τ : Int64) (x : Nat) (v1 v2 : Value) : am_run d 14 13 [.ref x, v1, v2] st σ τ = am_run d 14 14 [.ref x, v1, v2] (.ref x :: st) σ τ := rr_aload_n dX1_founders_13 rfl
theorem r14_14 (d : Nat) (st : List Value) (σ : am_St) (τ : Int64) (x : Int32) (v0 v1 : Value) : am_run d 14 14 [v0, v1, .int x] st σ τ = am_run d 14 15 [v0, v1, .int x] (.int x :: st) σ τ := rr_iload_n dX1_founders_14 rfl
theorem r14_15 (d : Nat) (ls st : List Value) (σ : am_St) (τ : Int64) (k : Nat) (a0 : Int32) (hk : am_kc k = 1) (hc : am_cats st ≤ 8) : am_run (d + 1) 14 15 ls (.int a0 :: .ref k :: st) σ τ = (am_call d 8 [.ref k, .int a0] σ τ).bind (fun r => am_run (d + 1) 14 18 ls (r.1.toList ++ st) r.2.1 r.2.2) := rr_invv [.int a0] dX1_founders_15 (by decide +kernel) (by decide) rfl (Nat.le_of_ble_eq_true rfl) hk hc
theorem r14_18 (d : Nat) (ls st : List Value) (σ : am_St) (τ : Int64) (x : Int32) : am_run d 14 18 ls (.int x :: st) σ τ = if x = 0 then am_run d 14 25 ls st σ τ else am_run d 14 21 ls st σ τ := (rr_if 25 dX1_founders_18 (by decide)).trans am_sel
theorem r14_21 (d : Nat) (ls st : List Value) (σ : am_St) (τ : Int64) : am_run d 14 21 ls st σ τ = am_run d 14 22 ls (.int 1 :: st) σ τ := rr_iconst 1 dX1_founders_21 (by decide)
theorem r14_22 (d : Nat) (ls st : List Value) (σ : am_St) (τ : Int64) : am_run d 14 22 ls st σ τ = am_run d 14 26 ls st σ τ := rr_goto 26 dX1_founders_22 (by decide)
theorem r14_25 (d : Nat) (ls st : List Value) (σ : am_St) (τ : Int64) : am_run d 14 25 ls st σ τ = am_run d 14 26 ls (.int 0 :: st) σ τ := rr_iconst 0 dX1_founders_25 (by decide)
theorem r14_26 (d : Nat) (ls st : List Value) (σ : am_St) (τ : Int64) (x y : Int32) : am_run d 14 26 ls (.int y :: .int x :: st) σ τ = am_run d 14 27 ls (.int (x + y) :: st) σ τ := rr_iadd dX1_founders_26
theorem r14_27 (d : Nat) (st : List Value) (σ : am_St) (τ : Int64) (x : Int32) (v0 v1 v2 : Value) : am_run d 14 27 [v0, v1, v2] (.int x :: st) σ τ = am_run d 14 28 [am_nl v0, .int x, v2] st σ τ := rr_istore_n _ dX1_founders_27 (by decide) (by first | rfl | (by_cases h : v0.category = 2 <;> simp [am_set1, am_nl, h]))
theorem r14_28 (d : Nat) (st : List Value) (σ : am_St) (τ : Int64) (x : Int32) (v0 v1 : Value) : am_run d 14 28 [v0, v1, .int x] st σ τ = am_run d 14 31 [v0, am_nl v1, .int (x + 1)] st σ τ := rr_iinc 1 _ dX1_founders_28 rfl (by decide) (by decide) (by first | rfl | (by_cases h : v1.category = 2 <;> simp [am_set1, am_nl, h]))
theorem r14_31 (d : Nat) (ls st : List Value) (σ : am_St) (τ : Int64) : am_run d 14 31 ls st σ τ = am_run d 14 4 ls st σ τ := rr_goto 4 dX1_founders_31 (by decide)
theorem r14_34 (d : Nat) (st : List Value) (σ : am_St) (τ : Int64) (x : Int32) (v0 v2 : Value) : am_run d 14 34 [v0, .int x, v2] st σ τ = am_run d 14 35 [v0, .int x, v2] (.int x :: st) σ τ := rr_iload_n dX1_founders_34 rfl
theorem r14_35 (d : Nat) (ls : List Value) (σ : am_St) (τ : Int64) (x : Int32) : am_run d 14 35 ls [.int x] σ τ = some (some (.int x), σ, τ) := rr_iret dX1_founders_35 rfl
theorem dX1_add_0 : decode (am_code 15) 0 = .ok (.aload_n 0, 1) := by decide +kernel
theorem dX1_add_1 : decode (am_code 15) 1 = .ok (.getfield 43, 3) := by decide +kernel
theorem dX1_add_4 : decode (am_code 15) 4 = .ok (.istore 6, 2) := by decide +kernel
theorem dX1_add_6 : decode (am_code 15) 6 = .ok (.iload 6, 2) := by decide +kernel
theorem dX1_add_8 : decode (am_code 15) 8 = .ok (.bipush 12, 2) := by decide +kernel
theorem dX1_add_10 : decode (am_code 15) 10 = .ok (.if_icmp .lt 6, 3) := by decide +kernel
theorem dX1_add_13 : decode (am_code 15) 13 = .ok (.bipush (-104), 2) := by decide +kernel
theorem dX1_add_15 : decode (am_code 15) 15 = .ok (.ireturn, 1) := by decide +kernel
theorem dX1_add_16 : decode (am_code 15) 16 = .ok (.aload_n 0, 1) := by decide +kernel
theorem dX1_add_17 : decode (am_code 15) 17 = .ok (.getfield 9, 3) := by decide +kernel
theorem dX1_add_20 : decode (am_code 15) 20 = .ok (.iload 6, 2) := by decide +kernel
theorem dX1_add_22 : decode (am_code 15) 22 = .ok (.iload_n 1, 1) := by decide +kernel
theorem dX1_add_23 : decode (am_code 15) 23 = .ok (.iastore, 1) := by decide +kernel
theorem dX1_add_24 : decode (am_code 15) 24 = .ok (.aload_n 0, 1) := by decide +kernel
theorem dX1_add_25 : decode (am_code 15) 25 = .ok (.getfield 15, 3) := by decide +kernel
theorem dX1_add_28 : decode (am_code 15) 28 = .ok (.iload 6, 2) := by decide +kernel
theorem dX1_add_30 : decode (am_code 15) 30 = .ok (.iload_n 2, 1) := by decide +kernel
theorem dX1_add_31 : decode (am_code 15) 31 = .ok (.iastore, 1) := by decide +kernel
theorem dX1_add_32 : decode (am_code 15) 32 = .ok (.aload_n 0, 1) := by decide +kernel
theorem dX1_add_33 : decode (am_code 15) 33 = .ok (.getfield 24, 3) := by decide +kernel
theorem dX1_add_36 : decode (am_code 15) 36 = .ok (.iload 6, 2) := by decide +kernel
theorem dX1_add_38 : decode (am_code 15) 38 = .ok (.iload_n 3, 1) := by decide +kernel
theorem dX1_add_39 : decode (am_code 15) 39 = .ok (.bipush (-2), 2) := by decide +kernel
theorem dX1_add_41 : decode (am_code 15) 41 = .ok (.if_icmp .ne 7, 3) := by decide +kernel
theorem dX1_add_44 : decode (am_code 15) 44 = .ok (.iconst 1, 1) := by decide +kernel
theorem dX1_add_45 : decode (am_code 15) 45 = .ok (.goto 4, 3) := by decide +kernel
theorem dX1_add_48 : decode (am_code 15) 48 = .ok (.iconst 0, 1) := by decide +kernel
theorem dX1_add_49 : decode (am_code 15) 49 = .ok (.bastore, 1) := by decide +kernel
theorem dX1_add_50 : decode (am_code 15) 50 = .ok (.aload_n 0, 1) := by decide +kernel
theorem dX1_add_51 : decode (am_code 15) 51 = .ok (.getfield 18, 3) := by decide +kernel
theorem dX1_add_54 : decode (am_code 15) 54 = .ok (.iload 6, 2) := by decide +kernel
theorem dX1_add_56 : decode (am_code 15) 56 = .ok (.aload_n 0, 1) := by decide +kernel
theorem dX1_add_57 : decode (am_code 15) 57 = .ok (.getfield 24, 3) := by decide +kernel
theorem dX1_add_60 : decode (am_code 15) 60 = .ok (.iload 6, 2) := by decide +kernel
theorem dX1_add_62 : decode (am_code 15) 62 = .ok (.baload, 1) := by decide +kernel
theorem dX1_add_63 : decode (am_code 15) 63 = .ok (.ifCond .eq 10, 3) := by decide +kernel
theorem dX1_add_66 : decode (am_code 15) 66 = .ok (.aload_n 0, 1) := by decide +kernel
theorem dX1_add_67 : decode (am_code 15) 67 = .ok (.invokevirtual 51, 3) := by decide +kernel
theorem dX1_add_70 : decode (am_code 15) 70 = .ok (.goto 4, 3) := by decide +kernel
theorem dX1_add_73 : decode (am_code 15) 73 = .ok (.iload_n 3, 1) := by decide +kernel
theorem dX1_add_74 : decode (am_code 15) 74 = .ok (.iastore, 1) := by decide +kernel
theorem dX1_add_75 : decode (am_code 15) 75 = .ok (.aload_n 0, 1) := by decide +kernel
theorem dX1_add_76 : decode (am_code 15) 76 = .ok (.getfield 21, 3) := by decide +kernel
theorem dX1_add_79 : decode (am_code 15) 79 = .ok (.iload 6, 2) := by decide +kernel
theorem dX1_add_81 : decode (am_code 15) 81 = .ok (.iload 4, 2) := by decide +kernel
theorem dX1_add_83 : decode (am_code 15) 83 = .ok (.iastore, 1) := by decide +kernel
theorem dX1_add_84 : decode (am_code 15) 84 = .ok (.aload_n 0, 1) := by decide +kernel
theorem dX1_add_85 : decode (am_code 15) 85 = .ok (.getfield 31, 3) := by decide +kernel
theorem dX1_add_88 : decode (am_code 15) 88 = .ok (.iload 6, 2) := by decide +kernel
theorem dX1_add_90 : decode (am_code 15) 90 = .ok (.iload 5, 2) := by decide +kernel
theorem dX1_add_92 : decode (am_code 15) 92 = .ok (.iastore, 1) := by decide +kernel
theorem dX1_add_93 : decode (am_code 15) 93 = .ok (.aload_n 0, 1) := by decide +kernel
theorem dX1_add_94 : decode (am_code 15) 94 = .ok (.getfield 34, 3) := by decide +kernel
theorem dX1_add_97 : decode (am_code 15) 97 = .ok (.iload 6, 2) := by decide +kernel
theorem dX1_add_99 : decode (am_code 15) 99 = .ok (.iconst (-1), 1) := by decide +kernel
theorem dX1_add_100 : decode (am_code 15) 100 = .ok (.iastore, 1) := by decide +kernel
theorem dX1_add_101 : decode (am_code 15) 101 = .ok (.aload_n 0, 1) := by decide +kernel
theorem dX1_add_102 : decode (am_code 15) 102 = .ok (.getfield 37, 3) := by decide +kernel
theorem dX1_add_105 : decode (am_code 15) 105 = .ok (.iload 6, 2) := by decide +kernel
theorem dX1_add_107 : decode (am_code 15) 107 = .ok (.iconst 1, 1) := by decide +kernel
theorem dX1_add_108 : decode (am_code 15) 108 = .ok (.bastore, 1) := by decide +kernel
theorem dX1_add_109 : decode (am_code 15) 109 = .ok (.aload_n 0, 1) := by decide +kernel
theorem dX1_add_110 : decode (am_code 15) 110 = .ok (.getfield 28, 3) := by decide +kernel
theorem dX1_add_113 : decode (am_code 15) 113 = .ok (.iload 6, 2) := by decide +kernel
theorem dX1_add_115 : decode (am_code 15) 115 = .ok (.aload_n 0, 1) := by decide +kernel
theorem dX1_add_116 : decode (am_code 15) 116 = .ok (.iload 6, 2) := by decide +kernel
theorem dX1_add_118 : decode (am_code 15) 118 = .ok (.invokevirtual 59, 3) := by decide +kernel
theorem dX1_add_121 : decode (am_code 15) 121 = .ok (.ifCond .eq 7, 3) := by decide +kernel
theorem dX1_add_124 : decode (am_code 15) 124 = .ok (.iconst 0, 1) := by decide +kernel
theorem dX1_add_125 : decode (am_code 15) 125 = .ok (.goto 32, 3) := by decide +kernel
theorem dX1_add_128 : decode (am_code 15) 128 = .ok (.iconst 1, 1) := by decide +kernel
theorem dX1_add_129 : decode (am_code 15) 129 = .ok (.aload_n 0, 1) := by decide +kernel
theorem dX1_add_130 : decode (am_code 15) 130 = .ok (.getfield 28, 3) := by decide +kernel
theorem dX1_add_133 : decode (am_code 15) 133 = .ok (.aload_n 0, 1) := by decide +kernel
theorem dX1_add_134 : decode (am_code 15) 134 = .ok (.getfield 18, 3) := by decide +kernel
theorem dX1_add_137 : decode (am_code 15) 137 = .ok (.iload 6, 2) := by decide +kernel
theorem dX1_add_139 : decode (am_code 15) 139 = .ok (.iaload, 1) := by decide +kernel
theorem dX1_add_140 : decode (am_code 15) 140 = .ok (.iaload, 1) := by decide +kernel
theorem dX1_add_141 : decode (am_code 15) 141 = .ok (.aload_n 0, 1) := by decide +kernel
theorem dX1_add_142 : decode (am_code 15) 142 = .ok (.getfield 28, 3) := by decide +kernel
theorem dX1_add_145 : decode (am_code 15) 145 = .ok (.aload_n 0, 1) := by decide +kernel
theorem dX1_add_146 : decode (am_code 15) 146 = .ok (.getfield 21, 3) := by decide +kernel
theorem dX1_add_149 : decode (am_code 15) 149 = .ok (.iload 6, 2) := by decide +kernel
theorem dX1_add_151 : decode (am_code 15) 151 = .ok (.iaload, 1) := by decide +kernel
theorem dX1_add_152 : decode (am_code 15) 152 = .ok (.iaload, 1) := by decide +kernel
theorem dX1_add_153 : decode (am_code 15) 153 = .ok (.invokestatic 62, 3) := by decide +kernel
theorem dX1_add_156 : decode (am_code 15) 156 = .ok (.iadd, 1) := by decide +kernel
theorem dX1_add_157 : decode (am_code 15) 157 = .ok (.iastore, 1) := by decide +kernel
theorem dX1_add_158 : decode (am_code 15) 158 = .ok (.iconst 0, 1) := by decide +kernel
theorem dX1_add_159 : decode (am_code 15) 159 = .ok (.istore 7, 2) := by decide +kernel
theorem dX1_add_161 : decode (am_code 15) 161 = .ok (.iload 7, 2) := by decide +kernel
theorem dX1_add_163 : decode (am_code 15) 163 = .ok (.bipush 12, 2) := by decide +kernel
theorem dX1_add_165 : decode (am_code 15) 165 = .ok (.if_icmp .ge 64, 3) := by decide +kernel
theorem dX1_add_168 : decode (am_code 15) 168 = .ok (.aload_n 0, 1) := by decide +kernel
theorem dX1_add_169 : decode (am_code 15) 169 = .ok (.getfield 40, 3) := by decide +kernel
theorem dX1_add_172 : decode (am_code 15) 172 = .ok (.iload 6, 2) := by decide +kernel
theorem dX1_add_174 : decode (am_code 15) 174 = .ok (.bipush 12, 2) := by decide +kernel
theorem dX1_add_176 : decode (am_code 15) 176 = .ok (.imul, 1) := by decide +kernel
theorem dX1_add_177 : decode (am_code 15) 177 = .ok (.iload 7, 2) := by decide +kernel
theorem dX1_add_179 : decode (am_code 15) 179 = .ok (.iadd, 1) := by decide +kernel
theorem dX1_add_180 : decode (am_code 15) 180 = .ok (.aload_n 0, 1) := by decide +kernel
theorem dX1_add_181 : decode (am_code 15) 181 = .ok (.iload 6, 2) := by decide +kernel
theorem dX1_add_183 : decode (am_code 15) 183 = .ok (.invokevirtual 59, 3) := by decide +kernel
theorem dX1_add_186 : decode (am_code 15) 186 = .ok (.ifCond .eq 7, 3) := by decide +kernel
theorem dX1_add_189 : decode (am_code 15) 189 = .ok (.iconst (-1), 1) := by decide +kernel
theorem dX1_add_190 : decode (am_code 15) 190 = .ok (.goto 32, 3) := by decide +kernel
theorem dX1_add_193 : decode (am_code 15) 193 = .ok (.aload_n 0, 1) := by decide +kernel
theorem dX1_add_194 : decode (am_code 15) 194 = .ok (.aload_n 0, 1) := by decide +kernel
theorem dX1_add_195 : decode (am_code 15) 195 = .ok (.getfield 18, 3) := by decide +kernel
theorem dX1_add_198 : decode (am_code 15) 198 = .ok (.iload 6, 2) := by decide +kernel
theorem dX1_add_200 : decode (am_code 15) 200 = .ok (.iaload, 1) := by decide +kernel
theorem dX1_add_201 : decode (am_code 15) 201 = .ok (.iload 7, 2) := by decide +kernel
theorem dX1_add_203 : decode (am_code 15) 203 = .ok (.invokevirtual 68, 3) := by decide +kernel
theorem dX1_add_206 : decode (am_code 15) 206 = .ok (.aload_n 0, 1) := by decide +kernel
theorem dX1_add_207 : decode (am_code 15) 207 = .ok (.aload_n 0, 1) := by decide +kernel
theorem dX1_add_208 : decode (am_code 15) 208 = .ok (.getfield 21, 3) := by decide +kernel
theorem dX1_add_211 : decode (am_code 15) 211 = .ok (.iload 6, 2) := by decide +kernel
theorem dX1_add_213 : decode (am_code 15) 213 = .ok (.iaload, 1) := by decide +kernel
theorem dX1_add_214 : decode (am_code 15) 214 = .ok (.iload 7, 2) := by decide +kernel
theorem dX1_add_216 : decode (am_code 15) 216 = .ok (.invokevirtual 68, 3) := by decide +kernel
theorem dX1_add_219 : decode (am_code 15) 219 = .ok (.invokestatic 71, 3) := by decide +kernel
theorem dX1_add_222 : decode (am_code 15) 222 = .ok (.iastore, 1) := by decide +kernel
theorem dX1_add_223 : decode (am_code 15) 223 = .ok (.iinc 7 1, 3) := by decide +kernel
theorem dX1_add_226 : decode (am_code 15) 226 = .ok (.goto (-65), 3) := by decide +kernel
theorem dX1_add_229 : decode (am_code 15) 229 = .ok (.aload_n 0, 1) := by decide +kernel
theorem dX1_add_230 : decode (am_code 15) 230 = .ok (.getfield 40, 3) := by decide +kernel
theorem dX1_add_233 : decode (am_code 15) 233 = .ok (.iload 6, 2) := by decide +kernel
theorem dX1_add_235 : decode (am_code 15) 235 = .ok (.bipush 12, 2) := by decide +kernel
theorem dX1_add_237 : decode (am_code 15) 237 = .ok (.imul, 1) := by decide +kernel
theorem dX1_add_238 : decode (am_code 15) 238 = .ok (.iload 6, 2) := by decide +kernel
theorem dX1_add_240 : decode (am_code 15) 240 = .ok (.iadd, 1) := by decide +kernel
theorem dX1_add_241 : decode (am_code 15) 241 = .ok (.iconst 0, 1) := by decide +kernel
theorem dX1_add_242 : decode (am_code 15) 242 = .ok (.iastore, 1) := by decide +kernel
theorem dX1_add_243 : decode (am_code 15) 243 = .ok (.aload_n 0, 1) := by decide +kernel
theorem dX1_add_244 : decode (am_code 15) 244 = .ok (.dup, 1) := by decide +kernel
theorem dX1_add_245 : decode (am_code 15) 245 = .ok (.getfield 43, 3) := by decide +kernel
theorem dX1_add_248 : decode (am_code 15) 248 = .ok (.iconst 1, 1) := by decide +kernel
theorem dX1_add_249 : decode (am_code 15) 249 = .ok (.iadd, 1) := by decide +kernel
theorem dX1_add_250 : decode (am_code 15) 250 = .ok (.putfield 43, 3) := by decide +kernel
theorem dX1_add_253 : decode (am_code 15) 253 = .ok (.iload 6, 2) := by decide +kernel
theorem dX1_add_255 : decode (am_code 15) 255 = .ok (.ireturn, 1) := by decide +kernel
theorem r15_0 (d : Nat) (st : List Value) (σ : am_St) (τ : Int64) (x : Nat) (v1 v2 v3 v4 v5 v6 v7 : Value) : am_run d 15 0 [.ref x, v1, v2, v3, v4, v5, v6, v7] st σ τ = am_run d 15 1 [.ref x, v1, v2, v3, v4, v5, v6, v7] (.ref x :: st) σ τ := rr_aload_n dX1_add_0 rfl
theorem r15_1 (d : Nat) (ls st : List Value) (σ : am_St) (τ : Int64) (k : Nat) : am_run d 15 1 ls (.ref k :: st) σ τ = am_gf k 1 0 σ τ (fun v => am_run d 15 4 ls (v :: st) σ τ) := rr_getf dX1_add_1 (by decide +kernel)
theorem r15_4 (d : Nat) (st : List Value) (σ : am_St) (τ : Int64) (x : Int32) (v0 v1 v2 v3 v4 v5 v6 v7 : Value) : am_run d 15 4 [v0, v1, v2, v3, v4, v5, v6, v7] (.int x :: st) σ τ = am_run d 15 6 [v0, v1, v2, v3, v4, am_nl v5, .int x, v7] st σ τ := rr_istore _ dX1_add_4 (by decide) (by first | rfl | (by_cases h : v5.category = 2 <;> simp [am_set1, am_nl, h]))
theorem r15_6 (d : Nat) (st : List Value) (σ : am_St) (τ : Int64) (x : Int32) (v0 v1 v2 v3 v4 v5 v7 : Value) : am_run d 15 6 [v0, v1, v2, v3, v4, v5, .int x, v7] st σ τ = am_run d 15 8 [v0, v1, v2, v3, v4, v5, .int x, v7] (.int x :: st) σ τ := rr_iload dX1_add_6 rfl
theorem r15_8 (d : Nat) (ls st : List Value) (σ : am_St) (τ : Int64) : am_run d 15 8 ls st σ τ = am_run d 15 10 ls (.int 12 :: st) σ τ := rr_bipush 12 dX1_add_8 (by decide)
theorem r15_10 (d : Nat) (ls st : List Value) (σ : am_St) (τ : Int64) (x y : Int32) : am_run d 15 10 ls (.int y :: .int x :: st) σ τ = if x < y then am_run d 15 16 ls st σ τ else am_run d 15 13 ls st σ τ := (rr_icmp 16 dX1_add_10 (by decide)).trans am_sel
theorem r15_13 (d : Nat) (ls st : List Value) (σ : am_St) (τ : Int64) : am_run d 15 13 ls st σ τ = am_run d 15 15 ls (.int (-104) :: st) σ τ := rr_bipush (-104) dX1_add_13 (by decide)
theorem r15_15 (d : Nat) (ls : List Value) (σ : am_St) (τ : Int64) (x : Int32) : am_run d 15 15 ls [.int x] σ τ = some (some (.int x), σ, τ) := rr_iret dX1_add_15 rfl
theorem r15_16 (d : Nat) (st : List Value) (σ : am_St) (τ : Int64) (x : Nat) (v1 v2 v3 v4 v5 v6 v7 : Value) : am_run d 15 16 [.ref x, v1, v2, v3, v4, v5, v6, v7] st σ τ = am_run d 15 17 [.ref x, v1, v2, v3, v4, v5, v6, v7] (.ref x :: st) σ τ := rr_aload_n dX1_add_16 rfl
theorem r15_17 (d : Nat) (ls st : List Value) (σ : am_St) (τ : Int64) (k : Nat) : am_run d 15 17 ls (.ref k :: st) σ τ = am_gf k 1 1 σ τ (fun v => am_run d 15 20 ls (v :: st) σ τ) := rr_getf dX1_add_17 (by decide +kernel)
theorem r15_20 (d : Nat) (st : List Value) (σ : am_St) (τ : Int64) (x : Int32) (v0 v1 v2 v3 v4 v5 v7 : Value) : am_run d 15 20 [v0, v1, v2, v3, v4, v5, .int x, v7] st σ τ = am_run d 15 22 [v0, v1, v2, v3, v4, v5, .int x, v7] (.int x :: st) σ τ := rr_iload dX1_add_20 rfl
theorem r15_22 (d : Nat) (st : List Value) (σ : am_St) (τ : Int64) (x : Int32) (v0 v2 v3 v4 v5 v6 v7 : Value) : am_run d 15 22 [v0, .int x, v2, v3, v4, v5, v6, v7] st σ τ = am_run d 15 23 [v0, .int x, v2, v3, v4, v5, v6, v7] (.int x :: st) σ τ := rr_iload_n dX1_add_22 rfl
theorem r15_23 (d : Nat) (ls st : List Value) (σ : am_St) (τ : Int64) (x i : Int32) (k : Nat) : am_run d 15 23 ls (.int x :: .int i :: .ref k :: st) σ τ = am_ai false k i (fun j => am_run d 15 24 ls st (am_up σ k j x) τ) := rr_iast dX1_add_23
theorem r15_24 (d : Nat) (st : List Value) (σ : am_St) (τ : Int64) (x : Nat) (v1 v2 v3 v4 v5 v6 v7 : Value) : am_run d 15 24 [.ref x, v1, v2, v3, v4, v5, v6, v7] st σ τ = am_run d 15 25 [.ref x, v1, v2, v3, v4, v5, v6, v7] (.ref x :: st) σ τ := rr_aload_n dX1_add_24 rfl
theorem r15_25 (d : Nat) (ls st : List Value) (σ : am_St) (τ : Int64) (k : Nat) : am_run d 15 25 ls (.ref k :: st) σ τ = am_gf k 1 2 σ τ (fun v => am_run d 15 28 ls (v :: st) σ τ) := rr_getf dX1_add_25 (by decide +kernel)
theorem r15_28 (d : Nat) (st : List Value) (σ : am_St) (τ : Int64) (x : Int32) (v0 v1 v2 v3 v4 v5 v7 : Value) : am_run d 15 28 [v0, v1, v2, v3, v4, v5, .int x, v7] st σ τ = am_run d 15 30 [v0, v1, v2, v3, v4, v5, .int x, v7] (.int x :: st) σ τ := rr_iload dX1_add_28 rfl
theorem r15_30 (d : Nat) (st : List Value) (σ : am_St) (τ : Int64) (x : Int32) (v0 v1 v3 v4 v5 v6 v7 : Value) : am_run d 15 30 [v0, v1, .int x, v3, v4, v5, v6, v7] st σ τ = am_run d 15 31 [v0, v1, .int x, v3, v4, v5, v6, v7] (.int x :: st) σ τ := rr_iload_n dX1_add_30 rfl
theorem r15_31 (d : Nat) (ls st : List Value) (σ : am_St) (τ : Int64) (x i : Int32) (k : Nat) : am_run d 15 31 ls (.int x :: .int i :: .ref k :: st) σ τ = am_ai false k i (fun j => am_run d 15 32 ls st (am_up σ k j x) τ) := rr_iast dX1_add_31
theorem r15_32 (d : Nat) (st : List Value) (σ : am_St) (τ : Int64) (x : Nat) (v1 v2 v3 v4 v5 v6 v7 : Value) : am_run d 15 32 [.ref x, v1, v2, v3, v4, v5, v6, v7] st σ τ = am_run d 15 33 [.ref x, v1, v2, v3, v4, v5, v6, v7] (.ref x :: st) σ τ := rr_aload_n dX1_add_32 rfl
theorem r15_33 (d : Nat) (ls st : List Value) (σ : am_St) (τ : Int64) (k : Nat) : am_run d 15 33 ls (.ref k :: st) σ τ = am_gf k 1 5 σ τ (fun v => am_run d 15 36 ls (v :: st) σ τ) := rr_getf dX1_add_33 (by decide +kernel)
theorem r15_36 (d : Nat) (st : List Value) (σ : am_St) (τ : Int64) (x : Int32) (v0 v1 v2 v3 v4 v5 v7 : Value) : am_run d 15 36 [v0, v1, v2, v3, v4, v5, .int x, v7] st σ τ = am_run d 15 38 [v0, v1, v2, v3, v4, v5, .int x, v7] (.int x :: st) σ τ := rr_iload dX1_add_36 rfl
theorem r15_38 (d : Nat) (st : List Value) (σ : am_St) (τ : Int64) (x : Int32) (v0 v1 v2 v4 v5 v6 v7 : Value) : am_run d 15 38 [v0, v1, v2, .int x, v4, v5, v6, v7] st σ τ = am_run d 15 39 [v0, v1, v2, .int x, v4, v5, v6, v7] (.int x :: st) σ τ := rr_iload_n dX1_add_38 rfl
theorem r15_39 (d : Nat) (ls st : List Value) (σ : am_St) (τ : Int64) : am_run d 15 39 ls st σ τ = am_run d 15 41 ls (.int (-2) :: st) σ τ := rr_bipush (-2) dX1_add_39 (by decide)
theorem r15_41 (d : Nat) (ls st : List Value) (σ : am_St) (τ : Int64) (x y : Int32) : am_run d 15 41 ls (.int y :: .int x :: st) σ τ = if x = y then am_run d 15 44 ls st σ τ else am_run d 15 48 ls st σ τ := (rr_icmp 48 dX1_add_41 (by decide)).trans am_seln
theorem r15_44 (d : Nat) (ls st : List Value) (σ : am_St) (τ : Int64) : am_run d 15 44 ls st σ τ = am_run d 15 45 ls (.int 1 :: st) σ τ := rr_iconst 1 dX1_add_44 (by decide)
theorem r15_45 (d : Nat) (ls st : List Value) (σ : am_St) (τ : Int64) : am_run d 15 45 ls st σ τ = am_run d 15 49 ls st σ τ := rr_goto 49 dX1_add_45 (by decide)
theorem r15_48 (d : Nat) (ls st : List Value) (σ : am_St) (τ : Int64) : am_run d 15 48 ls st σ τ = am_run d 15 49 ls (.int 0 :: st) σ τ := rr_iconst 0 dX1_add_48 (by decide)
theorem r15_49 (d : Nat) (ls st : List Value) (σ : am_St) (τ : Int64) (x i : Int32) (k : Nat) : am_run d 15 49 ls (.int x :: .int i :: .ref k :: st) σ τ = am_ai true k i (fun j => am_run d 15 50 ls st (am_up σ k j (vp_nar .boolean x)) τ) := rr_bast dX1_add_49
theorem r15_50 (d : Nat) (st : List Value) (σ : am_St) (τ : Int64) (x : Nat) (v1 v2 v3 v4 v5 v6 v7 : Value) : am_run d 15 50 [.ref x, v1, v2, v3, v4, v5, v6, v7] st σ τ = am_run d 15 51 [.ref x, v1, v2, v3, v4, v5, v6, v7] (.ref x :: st) σ τ := rr_aload_n dX1_add_50 rfl
theorem r15_51 (d : Nat) (ls st : List Value) (σ : am_St) (τ : Int64) (k : Nat) : am_run d 15 51 ls (.ref k :: st) σ τ = am_gf k 1 3 σ τ (fun v => am_run d 15 54 ls (v :: st) σ τ) := rr_getf dX1_add_51 (by decide +kernel)
theorem r15_54 (d : Nat) (st : List Value) (σ : am_St) (τ : Int64) (x : Int32) (v0 v1 v2 v3 v4 v5 v7 : Value) : am_run d 15 54 [v0, v1, v2, v3, v4, v5, .int x, v7] st σ τ = am_run d 15 56 [v0, v1, v2, v3, v4, v5, .int x, v7] (.int x :: st) σ τ := rr_iload dX1_add_54 rfl
theorem r15_56 (d : Nat) (st : List Value) (σ : am_St) (τ : Int64) (x : Nat) (v1 v2 v3 v4 v5 v6 v7 : Value) : am_run d 15 56 [.ref x, v1, v2, v3, v4, v5, v6, v7] st σ τ = am_run d 15 57 [.ref x, v1, v2, v3, v4, v5, v6, v7] (.ref x :: st) σ τ := rr_aload_n dX1_add_56 rfl
theorem r15_57 (d : Nat) (ls st : List Value) (σ : am_St) (τ : Int64) (k : Nat) : am_run d 15 57 ls (.ref k :: st) σ τ = am_gf k 1 5 σ τ (fun v => am_run d 15 60 ls (v :: st) σ τ) := rr_getf dX1_add_57 (by decide +kernel)
theorem r15_60 (d : Nat) (st : List Value) (σ : am_St) (τ : Int64) (x : Int32) (v0 v1 v2 v3 v4 v5 v7 : Value) : am_run d 15 60 [v0, v1, v2, v3, v4, v5, .int x, v7] st σ τ = am_run d 15 62 [v0, v1, v2, v3, v4, v5, .int x, v7] (.int x :: st) σ τ := rr_iload dX1_add_60 rfl
theorem r15_62 (d : Nat) (ls st : List Value) (σ : am_St) (τ : Int64) (i : Int32) (k : Nat) : am_run d 15 62 ls (.int i :: .ref k :: st) σ τ = am_ai true k i (fun j => am_run d 15 63 ls (.int (σ k j) :: st) σ τ) := rr_bald dX1_add_62
theorem r15_63 (d : Nat) (ls st : List Value) (σ : am_St) (τ : Int64) (x : Int32) : am_run d 15 63 ls (.int x :: st) σ τ = if x = 0 then am_run d 15 73 ls st σ τ else am_run d 15 66 ls st σ τ := (rr_if 73 dX1_add_63 (by decide)).trans am_sel
theorem r15_66 (d : Nat) (st : List Value) (σ : am_St) (τ : Int64) (x : Nat) (v1 v2 v3 v4 v5 v6 v7 : Value) : am_run d 15 66 [.ref x, v1, v2, v3, v4, v5, v6, v7] st σ τ = am_run d 15 67 [.ref x, v1, v2, v3, v4, v5, v6, v7] (.ref x :: st) σ τ := rr_aload_n dX1_add_66 rfl
theorem r15_67 (d : Nat) (ls st : List Value) (σ : am_St) (τ : Int64) (k : Nat)  (hk : am_kc k = 1) (hc : am_cats st ≤ 8) : am_run (d + 1) 15 67 ls (.ref k :: st) σ τ = (am_call d 10 [.ref k] σ τ).bind (fun r => am_run (d + 1) 15 70 ls (r.1.toList ++ st) r.2.1 r.2.2) := rr_invv [] dX1_add_67 (by decide +kernel) (by decide) rfl (Nat.le_of_ble_eq_true rfl) hk hc
theorem r15_70 (d : Nat) (ls st : List Value) (σ : am_St) (τ : Int64) : am_run d 15 70 ls st σ τ = am_run d 15 74 ls st σ τ := rr_goto 74 dX1_add_70 (by decide)
theorem r15_73 (d : Nat) (st : List Value) (σ : am_St) (τ : Int64) (x : Int32) (v0 v1 v2 v4 v5 v6 v7 : Value) : am_run d 15 73 [v0, v1, v2, .int x, v4, v5, v6, v7] st σ τ = am_run d 15 74 [v0, v1, v2, .int x, v4, v5, v6, v7] (.int x :: st) σ τ := rr_iload_n dX1_add_73 rfl
theorem r15_74 (d : Nat) (ls st : List Value) (σ : am_St) (τ : Int64) (x i : Int32) (k : Nat) : am_run d 15 74 ls (.int x :: .int i :: .ref k :: st) σ τ = am_ai false k i (fun j => am_run d 15 75 ls st (am_up σ k j x) τ) := rr_iast dX1_add_74
theorem r15_75 (d : Nat) (st : List Value) (σ : am_St) (τ : Int64) (x : Nat) (v1 v2 v3 v4 v5 v6 v7 : Value) : am_run d 15 75 [.ref x, v1, v2, v3, v4, v5, v6, v7] st σ τ = am_run d 15 76 [.ref x, v1, v2, v3, v4, v5, v6, v7] (.ref x :: st) σ τ := rr_aload_n dX1_add_75 rfl
theorem r15_76 (d : Nat) (ls st : List Value) (σ : am_St) (τ : Int64) (k : Nat) : am_run d 15 76 ls (.ref k :: st) σ τ = am_gf k 1 4 σ τ (fun v => am_run d 15 79 ls (v :: st) σ τ) := rr_getf dX1_add_76 (by decide +kernel)
theorem r15_79 (d : Nat) (st : List Value) (σ : am_St) (τ : Int64) (x : Int32) (v0 v1 v2 v3 v4 v5 v7 : Value) : am_run d 15 79 [v0, v1, v2, v3, v4, v5, .int x, v7] st σ τ = am_run d 15 81 [v0, v1, v2, v3, v4, v5, .int x, v7] (.int x :: st) σ τ := rr_iload dX1_add_79 rfl
theorem r15_81 (d : Nat) (st : List Value) (σ : am_St) (τ : Int64) (x : Int32) (v0 v1 v2 v3 v5 v6 v7 : Value) : am_run d 15 81 [v0, v1, v2, v3, .int x, v5, v6, v7] st σ τ = am_run d 15 83 [v0, v1, v2, v3, .int x, v5, v6, v7] (.int x :: st) σ τ := rr_iload dX1_add_81 rfl
theorem r15_83 (d : Nat) (ls st : List Value) (σ : am_St) (τ : Int64) (x i : Int32) (k : Nat) : am_run d 15 83 ls (.int x :: .int i :: .ref k :: st) σ τ = am_ai false k i (fun j => am_run d 15 84 ls st (am_up σ k j x) τ) := rr_iast dX1_add_83
theorem r15_84 (d : Nat) (st : List Value) (σ : am_St) (τ : Int64) (x : Nat) (v1 v2 v3 v4 v5 v6 v7 : Value) : am_run d 15 84 [.ref x, v1, v2, v3, v4, v5, v6, v7] st σ τ = am_run d 15 85 [.ref x, v1, v2, v3, v4, v5, v6, v7] (.ref x :: st) σ τ := rr_aload_n dX1_add_84 rfl
theorem r15_85 (d : Nat) (ls st : List Value) (σ : am_St) (τ : Int64) (k : Nat) : am_run d 15 85 ls (.ref k :: st) σ τ = am_gf k 1 7 σ τ (fun v => am_run d 15 88 ls (v :: st) σ τ) := rr_getf dX1_add_85 (by decide +kernel)
theorem r15_88 (d : Nat) (st : List Value) (σ : am_St) (τ : Int64) (x : Int32) (v0 v1 v2 v3 v4 v5 v7 : Value) : am_run d 15 88 [v0, v1, v2, v3, v4, v5, .int x, v7] st σ τ = am_run d 15 90 [v0, v1, v2, v3, v4, v5, .int x, v7] (.int x :: st) σ τ := rr_iload dX1_add_88 rfl
theorem r15_90 (d : Nat) (st : List Value) (σ : am_St) (τ : Int64) (x : Int32) (v0 v1 v2 v3 v4 v6 v7 : Value) : am_run d 15 90 [v0, v1, v2, v3, v4, .int x, v6, v7] st σ τ = am_run d 15 92 [v0, v1, v2, v3, v4, .int x, v6, v7] (.int x :: st) σ τ := rr_iload dX1_add_90 rfl
theorem r15_92 (d : Nat) (ls st : List Value) (σ : am_St) (τ : Int64) (x i : Int32) (k : Nat) : am_run d 15 92 ls (.int x :: .int i :: .ref k :: st) σ τ = am_ai false k i (fun j => am_run d 15 93 ls st (am_up σ k j x) τ) := rr_iast dX1_add_92
theorem r15_93 (d : Nat) (st : List Value) (σ : am_St) (τ : Int64) (x : Nat) (v1 v2 v3 v4 v5 v6 v7 : Value) : am_run d 15 93 [.ref x, v1, v2, v3, v4, v5, v6, v7] st σ τ = am_run d 15 94 [.ref x, v1, v2, v3, v4, v5, v6, v7] (.ref x :: st) σ τ := rr_aload_n dX1_add_93 rfl
theorem r15_94 (d : Nat) (ls st : List Value) (σ : am_St) (τ : Int64) (k : Nat) : am_run d 15 94 ls (.ref k :: st) σ τ = am_gf k 1 8 σ τ (fun v => am_run d 15 97 ls (v :: st) σ τ) := rr_getf dX1_add_94 (by decide +kernel)
theorem r15_97 (d : Nat) (st : List Value) (σ : am_St) (τ : Int64) (x : Int32) (v0 v1 v2 v3 v4 v5 v7 : Value) : am_run d 15 97 [v0, v1, v2, v3, v4, v5, .int x, v7] st σ τ = am_run d 15 99 [v0, v1, v2, v3, v4, v5, .int x, v7] (.int x :: st) σ τ := rr_iload dX1_add_97 rfl
theorem r15_99 (d : Nat) (ls st : List Value) (σ : am_St) (τ : Int64) : am_run d 15 99 ls st σ τ = am_run d 15 100 ls (.int (-1) :: st) σ τ := rr_iconst (-1) dX1_add_99 (by decide)
theorem r15_100 (d : Nat) (ls st : List Value) (σ : am_St) (τ : Int64) (x i : Int32) (k : Nat) : am_run d 15 100 ls (.int x :: .int i :: .ref k :: st) σ τ = am_ai false k i (fun j => am_run d 15 101 ls st (am_up σ k j x) τ) := rr_iast dX1_add_100
theorem r15_101 (d : Nat) (st : List Value) (σ : am_St) (τ : Int64) (x : Nat) (v1 v2 v3 v4 v5 v6 v7 : Value) : am_run d 15 101 [.ref x, v1, v2, v3, v4, v5, v6, v7] st σ τ = am_run d 15 102 [.ref x, v1, v2, v3, v4, v5, v6, v7] (.ref x :: st) σ τ := rr_aload_n dX1_add_101 rfl
theorem r15_102 (d : Nat) (ls st : List Value) (σ : am_St) (τ : Int64) (k : Nat) : am_run d 15 102 ls (.ref k :: st) σ τ = am_gf k 1 9 σ τ (fun v => am_run d 15 105 ls (v :: st) σ τ) := rr_getf dX1_add_102 (by decide +kernel)
theorem r15_105 (d : Nat) (st : List Value) (σ : am_St) (τ : Int64) (x : Int32) (v0 v1 v2 v3 v4 v5 v7 : Value) : am_run d 15 105 [v0, v1, v2, v3, v4, v5, .int x, v7] st σ τ = am_run d 15 107 [v0, v1, v2, v3, v4, v5, .int x, v7] (.int x :: st) σ τ := rr_iload dX1_add_105 rfl
theorem r15_107 (d : Nat) (ls st : List Value) (σ : am_St) (τ : Int64) : am_run d 15 107 ls st σ τ = am_run d 15 108 ls (.int 1 :: st) σ τ := rr_iconst 1 dX1_add_107 (by decide)
theorem r15_108 (d : Nat) (ls st : List Value) (σ : am_St) (τ : Int64) (x i : Int32) (k : Nat) : am_run d 15 108 ls (.int x :: .int i :: .ref k :: st) σ τ = am_ai true k i (fun j => am_run d 15 109 ls st (am_up σ k j (vp_nar .boolean x)) τ) := rr_bast dX1_add_108
theorem r15_109 (d : Nat) (st : List Value) (σ : am_St) (τ : Int64) (x : Nat) (v1 v2 v3 v4 v5 v6 v7 : Value) : am_run d 15 109 [.ref x, v1, v2, v3, v4, v5, v6, v7] st σ τ = am_run d 15 110 [.ref x, v1, v2, v3, v4, v5, v6, v7] (.ref x :: st) σ τ := rr_aload_n dX1_add_109 rfl
theorem r15_110 (d : Nat) (ls st : List Value) (σ : am_St) (τ : Int64) (k : Nat) : am_run d 15 110 ls (.ref k :: st) σ τ = am_gf k 1 6 σ τ (fun v => am_run d 15 113 ls (v :: st) σ τ) := rr_getf dX1_add_110 (by decide +kernel)
theorem r15_113 (d : Nat) (st : List Value) (σ : am_St) (τ : Int64) (x : Int32) (v0 v1 v2 v3 v4 v5 v7 : Value) : am_run d 15 113 [v0, v1, v2, v3, v4, v5, .int x, v7] st σ τ = am_run d 15 115 [v0, v1, v2, v3, v4, v5, .int x, v7] (.int x :: st) σ τ := rr_iload dX1_add_113 rfl
theorem r15_115 (d : Nat) (st : List Value) (σ : am_St) (τ : Int64) (x : Nat) (v1 v2 v3 v4 v5 v6 v7 : Value) : am_run d 15 115 [.ref x, v1, v2, v3, v4, v5, v6, v7] st σ τ = am_run d 15 116 [.ref x, v1, v2, v3, v4, v5, v6, v7] (.ref x :: st) σ τ := rr_aload_n dX1_add_115 rfl
theorem r15_116 (d : Nat) (st : List Value) (σ : am_St) (τ : Int64) (x : Int32) (v0 v1 v2 v3 v4 v5 v7 : Value) : am_run d 15 116 [v0, v1, v2, v3, v4, v5, .int x, v7] st σ τ = am_run d 15 118 [v0, v1, v2, v3, v4, v5, .int x, v7] (.int x :: st) σ τ := rr_iload dX1_add_116 rfl
theorem r15_118 (d : Nat) (ls st : List Value) (σ : am_St) (τ : Int64) (k : Nat) (a0 : Int32) (hk : am_kc k = 1) (hc : am_cats st ≤ 8) : am_run (d + 1) 15 118 ls (.int a0 :: .ref k :: st) σ τ = (am_call d 8 [.ref k, .int a0] σ τ).bind (fun r => am_run (d + 1) 15 121 ls (r.1.toList ++ st) r.2.1 r.2.2) := rr_invv [.int a0] dX1_add_118 (by decide +kernel) (by decide) rfl (Nat.le_of_ble_eq_true rfl) hk hc
theorem r15_121 (d : Nat) (ls st : List Value) (σ : am_St) (τ : Int64) (x : Int32) : am_run d 15 121 ls (.int x :: st) σ τ = if x = 0 then am_run d 15 128 ls st σ τ else am_run d 15 124 ls st σ τ := (rr_if 128 dX1_add_121 (by decide)).trans am_sel
theorem r15_124 (d : Nat) (ls st : List Value) (σ : am_St) (τ : Int64) : am_run d 15 124 ls st σ τ = am_run d 15 125 ls (.int 0 :: st) σ τ := rr_iconst 0 dX1_add_124 (by decide)
theorem r15_125 (d : Nat) (ls st : List Value) (σ : am_St) (τ : Int64) : am_run d 15 125 ls st σ τ = am_run d 15 157 ls st σ τ := rr_goto 157 dX1_add_125 (by decide)
theorem r15_128 (d : Nat) (ls st : List Value) (σ : am_St) (τ : Int64) : am_run d 15 128 ls st σ τ = am_run d 15 129 ls (.int 1 :: st) σ τ := rr_iconst 1 dX1_add_128 (by decide)
theorem r15_129 (d : Nat) (st : List Value) (σ : am_St) (τ : Int64) (x : Nat) (v1 v2 v3 v4 v5 v6 v7 : Value) : am_run d 15 129 [.ref x, v1, v2, v3, v4, v5, v6, v7] st σ τ = am_run d 15 130 [.ref x, v1, v2, v3, v4, v5, v6, v7] (.ref x :: st) σ τ := rr_aload_n dX1_add_129 rfl
theorem r15_130 (d : Nat) (ls st : List Value) (σ : am_St) (τ : Int64) (k : Nat) : am_run d 15 130 ls (.ref k :: st) σ τ = am_gf k 1 6 σ τ (fun v => am_run d 15 133 ls (v :: st) σ τ) := rr_getf dX1_add_130 (by decide +kernel)
theorem r15_133 (d : Nat) (st : List Value) (σ : am_St) (τ : Int64) (x : Nat) (v1 v2 v3 v4 v5 v6 v7 : Value) : am_run d 15 133 [.ref x, v1, v2, v3, v4, v5, v6, v7] st σ τ = am_run d 15 134 [.ref x, v1, v2, v3, v4, v5, v6, v7] (.ref x :: st) σ τ := rr_aload_n dX1_add_133 rfl
theorem r15_134 (d : Nat) (ls st : List Value) (σ : am_St) (τ : Int64) (k : Nat) : am_run d 15 134 ls (.ref k :: st) σ τ = am_gf k 1 3 σ τ (fun v => am_run d 15 137 ls (v :: st) σ τ) := rr_getf dX1_add_134 (by decide +kernel)
theorem r15_137 (d : Nat) (st : List Value) (σ : am_St) (τ : Int64) (x : Int32) (v0 v1 v2 v3 v4 v5 v7 : Value) : am_run d 15 137 [v0, v1, v2, v3, v4, v5, .int x, v7] st σ τ = am_run d 15 139 [v0, v1, v2, v3, v4, v5, .int x, v7] (.int x :: st) σ τ := rr_iload dX1_add_137 rfl
theorem r15_139 (d : Nat) (ls st : List Value) (σ : am_St) (τ : Int64) (i : Int32) (k : Nat) : am_run d 15 139 ls (.int i :: .ref k :: st) σ τ = am_ai false k i (fun j => am_run d 15 140 ls (.int (σ k j) :: st) σ τ) := rr_iald dX1_add_139
theorem r15_140 (d : Nat) (ls st : List Value) (σ : am_St) (τ : Int64) (i : Int32) (k : Nat) : am_run d 15 140 ls (.int i :: .ref k :: st) σ τ = am_ai false k i (fun j => am_run d 15 141 ls (.int (σ k j) :: st) σ τ) := rr_iald dX1_add_140
theorem r15_141 (d : Nat) (st : List Value) (σ : am_St) (τ : Int64) (x : Nat) (v1 v2 v3 v4 v5 v6 v7 : Value) : am_run d 15 141 [.ref x, v1, v2, v3, v4, v5, v6, v7] st σ τ = am_run d 15 142 [.ref x, v1, v2, v3, v4, v5, v6, v7] (.ref x :: st) σ τ := rr_aload_n dX1_add_141 rfl
theorem r15_142 (d : Nat) (ls st : List Value) (σ : am_St) (τ : Int64) (k : Nat) : am_run d 15 142 ls (.ref k :: st) σ τ = am_gf k 1 6 σ τ (fun v => am_run d 15 145 ls (v :: st) σ τ) := rr_getf dX1_add_142 (by decide +kernel)
theorem r15_145 (d : Nat) (st : List Value) (σ : am_St) (τ : Int64) (x : Nat) (v1 v2 v3 v4 v5 v6 v7 : Value) : am_run d 15 145 [.ref x, v1, v2, v3, v4, v5, v6, v7] st σ τ = am_run d 15 146 [.ref x, v1, v2, v3, v4, v5, v6, v7] (.ref x :: st) σ τ := rr_aload_n dX1_add_145 rfl
theorem r15_146 (d : Nat) (ls st : List Value) (σ : am_St) (τ : Int64) (k : Nat) : am_run d 15 146 ls (.ref k :: st) σ τ = am_gf k 1 4 σ τ (fun v => am_run d 15 149 ls (v :: st) σ τ) := rr_getf dX1_add_146 (by decide +kernel)
theorem r15_149 (d : Nat) (st : List Value) (σ : am_St) (τ : Int64) (x : Int32) (v0 v1 v2 v3 v4 v5 v7 : Value) : am_run d 15 149 [v0, v1, v2, v3, v4, v5, .int x, v7] st σ τ = am_run d 15 151 [v0, v1, v2, v3, v4, v5, .int x, v7] (.int x :: st) σ τ := rr_iload dX1_add_149 rfl
theorem r15_151 (d : Nat) (ls st : List Value) (σ : am_St) (τ : Int64) (i : Int32) (k : Nat) : am_run d 15 151 ls (.int i :: .ref k :: st) σ τ = am_ai false k i (fun j => am_run d 15 152 ls (.int (σ k j) :: st) σ τ) := rr_iald dX1_add_151
theorem r15_152 (d : Nat) (ls st : List Value) (σ : am_St) (τ : Int64) (i : Int32) (k : Nat) : am_run d 15 152 ls (.int i :: .ref k :: st) σ τ = am_ai false k i (fun j => am_run d 15 153 ls (.int (σ k j) :: st) σ τ) := rr_iald dX1_add_152
theorem r15_153 (d : Nat) (ls st : List Value) (σ : am_St) (τ : Int64) (x y : Int32) (hc : am_cats st ≤ 8) : am_run d 15 153 ls (.int y :: .int x :: st) σ τ = am_run d 15 156 ls (.int (if x < y then y else x) :: st) σ τ := rr_max dX1_add_153 (by decide +kernel) hc
theorem r15_156 (d : Nat) (ls st : List Value) (σ : am_St) (τ : Int64) (x y : Int32) : am_run d 15 156 ls (.int y :: .int x :: st) σ τ = am_run d 15 157 ls (.int (x + y) :: st) σ τ := rr_iadd dX1_add_156
theorem r15_157 (d : Nat) (ls st : List Value) (σ : am_St) (τ : Int64) (x i : Int32) (k : Nat) : am_run d 15 157 ls (.int x :: .int i :: .ref k :: st) σ τ = am_ai false k i (fun j => am_run d 15 158 ls st (am_up σ k j x) τ) := rr_iast dX1_add_157
theorem r15_158 (d : Nat) (ls st : List Value) (σ : am_St) (τ : Int64) : am_run d 15 158 ls st σ τ = am_run d 15 159 ls (.int 0 :: st) σ τ := rr_iconst 0 dX1_add_158 (by decide)
theorem r15_159 (d : Nat) (st : List Value) (σ : am_St) (τ : Int64) (x : Int32) (v0 v1 v2 v3 v4 v5 v6 v7 : Value) : am_run d 15 159 [v0, v1, v2, v3, v4, v5, v6, v7] (.int x :: st) σ τ = am_run d 15 161 [v0, v1, v2, v3, v4, v5, am_nl v6, .int x] st σ τ := rr_istore _ dX1_add_159 (by decide) (by first | rfl | (by_cases h : v6.category = 2 <;> simp [am_set1, am_nl, h]))
theorem r15_161 (d : Nat) (st : List Value) (σ : am_St) (τ : Int64) (x : Int32) (v0 v1 v2 v3 v4 v5 v6 : Value) : am_run d 15 161 [v0, v1, v2, v3, v4, v5, v6, .int x] st σ τ = am_run d 15 163 [v0, v1, v2, v3, v4, v5, v6, .int x] (.int x :: st) σ τ := rr_iload dX1_add_161 rfl
theorem r15_163 (d : Nat) (ls st : List Value) (σ : am_St) (τ : Int64) : am_run d 15 163 ls st σ τ = am_run d 15 165 ls (.int 12 :: st) σ τ := rr_bipush 12 dX1_add_163 (by decide)
theorem r15_165 (d : Nat) (ls st : List Value) (σ : am_St) (τ : Int64) (x y : Int32) : am_run d 15 165 ls (.int y :: .int x :: st) σ τ = if y ≤ x then am_run d 15 229 ls st σ τ else am_run d 15 168 ls st σ τ := (rr_icmp 229 dX1_add_165 (by decide)).trans am_sel
theorem r15_168 (d : Nat) (st : List Value) (σ : am_St) (τ : Int64) (x : Nat) (v1 v2 v3 v4 v5 v6 v7 : Value) : am_run d 15 168 [.ref x, v1, v2, v3, v4, v5, v6, v7] st σ τ = am_run d 15 169 [.ref x, v1, v2, v3, v4, v5, v6, v7] (.ref x :: st) σ τ := rr_aload_n dX1_add_168 rfl
theorem r15_169 (d : Nat) (ls st : List Value) (σ : am_St) (τ : Int64) (k : Nat) : am_run d 15 169 ls (.ref k :: st) σ τ = am_gf k 1 10 σ τ (fun v => am_run d 15 172 ls (v :: st) σ τ) := rr_getf dX1_add_169 (by decide +kernel)
theorem r15_172 (d : Nat) (st : List Value) (σ : am_St) (τ : Int64) (x : Int32) (v0 v1 v2 v3 v4 v5 v7 : Value) : am_run d 15 172 [v0, v1, v2, v3, v4, v5, .int x, v7] st σ τ = am_run d 15 174 [v0, v1, v2, v3, v4, v5, .int x, v7] (.int x :: st) σ τ := rr_iload dX1_add_172 rfl
theorem r15_174 (d : Nat) (ls st : List Value) (σ : am_St) (τ : Int64) : am_run d 15 174 ls st σ τ = am_run d 15 176 ls (.int 12 :: st) σ τ := rr_bipush 12 dX1_add_174 (by decide)
theorem r15_176 (d : Nat) (ls st : List Value) (σ : am_St) (τ : Int64) (x y : Int32) : am_run d 15 176 ls (.int y :: .int x :: st) σ τ = am_run d 15 177 ls (.int (x * y) :: st) σ τ := rr_imul dX1_add_176
theorem r15_177 (d : Nat) (st : List Value) (σ : am_St) (τ : Int64) (x : Int32) (v0 v1 v2 v3 v4 v5 v6 : Value) : am_run d 15 177 [v0, v1, v2, v3, v4, v5, v6, .int x] st σ τ = am_run d 15 179 [v0, v1, v2, v3, v4, v5, v6, .int x] (.int x :: st) σ τ := rr_iload dX1_add_177 rfl
theorem r15_179 (d : Nat) (ls st : List Value) (σ : am_St) (τ : Int64) (x y : Int32) : am_run d 15 179 ls (.int y :: .int x :: st) σ τ = am_run d 15 180 ls (.int (x + y) :: st) σ τ := rr_iadd dX1_add_179
theorem r15_180 (d : Nat) (st : List Value) (σ : am_St) (τ : Int64) (x : Nat) (v1 v2 v3 v4 v5 v6 v7 : Value) : am_run d 15 180 [.ref x, v1, v2, v3, v4, v5, v6, v7] st σ τ = am_run d 15 181 [.ref x, v1, v2, v3, v4, v5, v6, v7] (.ref x :: st) σ τ := rr_aload_n dX1_add_180 rfl
theorem r15_181 (d : Nat) (st : List Value) (σ : am_St) (τ : Int64) (x : Int32) (v0 v1 v2 v3 v4 v5 v7 : Value) : am_run d 15 181 [v0, v1, v2, v3, v4, v5, .int x, v7] st σ τ = am_run d 15 183 [v0, v1, v2, v3, v4, v5, .int x, v7] (.int x :: st) σ τ := rr_iload dX1_add_181 rfl
theorem r15_183 (d : Nat) (ls st : List Value) (σ : am_St) (τ : Int64) (k : Nat) (a0 : Int32) (hk : am_kc k = 1) (hc : am_cats st ≤ 8) : am_run (d + 1) 15 183 ls (.int a0 :: .ref k :: st) σ τ = (am_call d 8 [.ref k, .int a0] σ τ).bind (fun r => am_run (d + 1) 15 186 ls (r.1.toList ++ st) r.2.1 r.2.2) := rr_invv [.int a0] dX1_add_183 (by decide +kernel) (by decide) rfl (Nat.le_of_ble_eq_true rfl) hk hc
theorem r15_186 (d : Nat) (ls st : List Value) (σ : am_St) (τ : Int64) (x : Int32) : am_run d 15 186 ls (.int x :: st) σ τ = if x = 0 then am_run d 15 193 ls st σ τ else am_run d 15 189 ls st σ τ := (rr_if 193 dX1_add_186 (by decide)).trans am_sel
theorem r15_189 (d : Nat) (ls st : List Value) (σ : am_St) (τ : Int64) : am_run d 15 189 ls st σ τ = am_run d 15 190 ls (.int (-1) :: st) σ τ := rr_iconst (-1) dX1_add_189 (by decide)
theorem r15_190 (d : Nat) (ls st : List Value) (σ : am_St) (τ : Int64) : am_run d 15 190 ls st σ τ = am_run d 15 222 ls st σ τ := rr_goto 222 dX1_add_190 (by decide)
theorem r15_193 (d : Nat) (st : List Value) (σ : am_St) (τ : Int64) (x : Nat) (v1 v2 v3 v4 v5 v6 v7 : Value) : am_run d 15 193 [.ref x, v1, v2, v3, v4, v5, v6, v7] st σ τ = am_run d 15 194 [.ref x, v1, v2, v3, v4, v5, v6, v7] (.ref x :: st) σ τ := rr_aload_n dX1_add_193 rfl
theorem r15_194 (d : Nat) (st : List Value) (σ : am_St) (τ : Int64) (x : Nat) (v1 v2 v3 v4 v5 v6 v7 : Value) : am_run d 15 194 [.ref x, v1, v2, v3, v4, v5, v6, v7] st σ τ = am_run d 15 195 [.ref x, v1, v2, v3, v4, v5, v6, v7] (.ref x :: st) σ τ := rr_aload_n dX1_add_194 rfl
theorem r15_195 (d : Nat) (ls st : List Value) (σ : am_St) (τ : Int64) (k : Nat) : am_run d 15 195 ls (.ref k :: st) σ τ = am_gf k 1 3 σ τ (fun v => am_run d 15 198 ls (v :: st) σ τ) := rr_getf dX1_add_195 (by decide +kernel)
theorem r15_198 (d : Nat) (st : List Value) (σ : am_St) (τ : Int64) (x : Int32) (v0 v1 v2 v3 v4 v5 v7 : Value) : am_run d 15 198 [v0, v1, v2, v3, v4, v5, .int x, v7] st σ τ = am_run d 15 200 [v0, v1, v2, v3, v4, v5, .int x, v7] (.int x :: st) σ τ := rr_iload dX1_add_198 rfl
theorem r15_200 (d : Nat) (ls st : List Value) (σ : am_St) (τ : Int64) (i : Int32) (k : Nat) : am_run d 15 200 ls (.int i :: .ref k :: st) σ τ = am_ai false k i (fun j => am_run d 15 201 ls (.int (σ k j) :: st) σ τ) := rr_iald dX1_add_200
theorem r15_201 (d : Nat) (st : List Value) (σ : am_St) (τ : Int64) (x : Int32) (v0 v1 v2 v3 v4 v5 v6 : Value) : am_run d 15 201 [v0, v1, v2, v3, v4, v5, v6, .int x] st σ τ = am_run d 15 203 [v0, v1, v2, v3, v4, v5, v6, .int x] (.int x :: st) σ τ := rr_iload dX1_add_201 rfl
theorem r15_203 (d : Nat) (ls st : List Value) (σ : am_St) (τ : Int64) (k : Nat) (a0 : Int32) (a1 : Int32) (hk : am_kc k = 1) (hc : am_cats st ≤ 8) : am_run (d + 1) 15 203 ls (.int a1 :: .int a0 :: .ref k :: st) σ τ = (am_call d 16 [.ref k, .int a0, .int a1] σ τ).bind (fun r => am_run (d + 1) 15 206 ls (r.1.toList ++ st) r.2.1 r.2.2) := rr_invv [.int a0, .int a1] dX1_add_203 (by decide +kernel) (by decide) rfl (Nat.le_of_ble_eq_true rfl) hk hc
theorem r15_206 (d : Nat) (st : List Value) (σ : am_St) (τ : Int64) (x : Nat) (v1 v2 v3 v4 v5 v6 v7 : Value) : am_run d 15 206 [.ref x, v1, v2, v3, v4, v5, v6, v7] st σ τ = am_run d 15 207 [.ref x, v1, v2, v3, v4, v5, v6, v7] (.ref x :: st) σ τ := rr_aload_n dX1_add_206 rfl
theorem r15_207 (d : Nat) (st : List Value) (σ : am_St) (τ : Int64) (x : Nat) (v1 v2 v3 v4 v5 v6 v7 : Value) : am_run d 15 207 [.ref x, v1, v2, v3, v4, v5, v6, v7] st σ τ = am_run d 15 208 [.ref x, v1, v2, v3, v4, v5, v6, v7] (.ref x :: st) σ τ := rr_aload_n dX1_add_207 rfl
theorem r15_208 (d : Nat) (ls st : List Value) (σ : am_St) (τ : Int64) (k : Nat) : am_run d 15 208 ls (.ref k :: st) σ τ = am_gf k 1 4 σ τ (fun v => am_run d 15 211 ls (v :: st) σ τ) := rr_getf dX1_add_208 (by decide +kernel)
theorem r15_211 (d : Nat) (st : List Value) (σ : am_St) (τ : Int64) (x : Int32) (v0 v1 v2 v3 v4 v5 v7 : Value) : am_run d 15 211 [v0, v1, v2, v3, v4, v5, .int x, v7] st σ τ = am_run d 15 213 [v0, v1, v2, v3, v4, v5, .int x, v7] (.int x :: st) σ τ := rr_iload dX1_add_211 rfl
theorem r15_213 (d : Nat) (ls st : List Value) (σ : am_St) (τ : Int64) (i : Int32) (k : Nat) : am_run d 15 213 ls (.int i :: .ref k :: st) σ τ = am_ai false k i (fun j => am_run d 15 214 ls (.int (σ k j) :: st) σ τ) := rr_iald dX1_add_213
theorem r15_214 (d : Nat) (st : List Value) (σ : am_St) (τ : Int64) (x : Int32) (v0 v1 v2 v3 v4 v5 v6 : Value) : am_run d 15 214 [v0, v1, v2, v3, v4, v5, v6, .int x] st σ τ = am_run d 15 216 [v0, v1, v2, v3, v4, v5, v6, .int x] (.int x :: st) σ τ := rr_iload dX1_add_214 rfl
theorem r15_216 (d : Nat) (ls st : List Value) (σ : am_St) (τ : Int64) (k : Nat) (a0 : Int32) (a1 : Int32) (hk : am_kc k = 1) (hc : am_cats st ≤ 8) : am_run (d + 1) 15 216 ls (.int a1 :: .int a0 :: .ref k :: st) σ τ = (am_call d 16 [.ref k, .int a0, .int a1] σ τ).bind (fun r => am_run (d + 1) 15 219 ls (r.1.toList ++ st) r.2.1 r.2.2) := rr_invv [.int a0, .int a1] dX1_add_216 (by decide +kernel) (by decide) rfl (Nat.le_of_ble_eq_true rfl) hk hc
theorem r15_219 (d : Nat) (ls st : List Value) (σ : am_St) (τ : Int64) (a0 : Int32) (a1 : Int32) (hc : am_cats st ≤ 8) : am_run (d + 1) 15 219 ls (.int a1 :: .int a0 :: st) σ τ = (am_call d 17 [.int a0, .int a1] σ τ).bind (fun r => am_run (d + 1) 15 222 ls (r.1.toList ++ st) r.2.1 r.2.2) := rr_invs [.int a0, .int a1] dX1_add_219 (by decide +kernel) (by decide +kernel) (by decide) rfl (Nat.le_of_ble_eq_true rfl) hc
theorem r15_222 (d : Nat) (ls st : List Value) (σ : am_St) (τ : Int64) (x i : Int32) (k : Nat) : am_run d 15 222 ls (.int x :: .int i :: .ref k :: st) σ τ = am_ai false k i (fun j => am_run d 15 223 ls st (am_up σ k j x) τ) := rr_iast dX1_add_222
theorem r15_223 (d : Nat) (st : List Value) (σ : am_St) (τ : Int64) (x : Int32) (v0 v1 v2 v3 v4 v5 v6 : Value) : am_run d 15 223 [v0, v1, v2, v3, v4, v5, v6, .int x] st σ τ = am_run d 15 226 [v0, v1, v2, v3, v4, v5, am_nl v6, .int (x + 1)] st σ τ := rr_iinc 1 _ dX1_add_223 rfl (by decide) (by decide) (by first | rfl | (by_cases h : v6.category = 2 <;> simp [am_set1, am_nl, h]))
theorem r15_226 (d : Nat) (ls st : List Value) (σ : am_St) (τ : Int64) : am_run d 15 226 ls st σ τ = am_run d 15 161 ls st σ τ := rr_goto 161 dX1_add_226 (by decide)
theorem r15_229 (d : Nat) (st : List Value) (σ : am_St) (τ : Int64) (x : Nat) (v1 v2 v3 v4 v5 v6 v7 : Value) : am_run d 15 229 [.ref x, v1, v2, v3, v4, v5, v6, v7] st σ τ = am_run d 15 230 [.ref x, v1, v2, v3, v4, v5, v6, v7] (.ref x :: st) σ τ := rr_aload_n dX1_add_229 rfl
theorem r15_230 (d : Nat) (ls st : List Value) (σ : am_St) (τ : Int64) (k : Nat) : am_run d 15 230 ls (.ref k :: st) σ τ = am_gf k 1 10 σ τ (fun v => am_run d 15 233 ls (v :: st) σ τ) := rr_getf dX1_add_230 (by decide +kernel)
theorem r15_233 (d : Nat) (st : List Value) (σ : am_St) (τ : Int64) (x : Int32) (v0 v1 v2 v3 v4 v5 v7 : Value) : am_run d 15 233 [v0, v1, v2, v3, v4, v5, .int x, v7] st σ τ = am_run d 15 235 [v0, v1, v2, v3, v4, v5, .int x, v7] (.int x :: st) σ τ := rr_iload dX1_add_233 rfl
theorem r15_235 (d : Nat) (ls st : List Value) (σ : am_St) (τ : Int64) : am_run d 15 235 ls st σ τ = am_run d 15 237 ls (.int 12 :: st) σ τ := rr_bipush 12 dX1_add_235 (by decide)
theorem r15_237 (d : Nat) (ls st : List Value) (σ : am_St) (τ : Int64) (x y : Int32) : am_run d 15 237 ls (.int y :: .int x :: st) σ τ = am_run d 15 238 ls (.int (x * y) :: st) σ τ := rr_imul dX1_add_237
theorem r15_238 (d : Nat) (st : List Value) (σ : am_St) (τ : Int64) (x : Int32) (v0 v1 v2 v3 v4 v5 v7 : Value) : am_run d 15 238 [v0, v1, v2, v3, v4, v5, .int x, v7] st σ τ = am_run d 15 240 [v0, v1, v2, v3, v4, v5, .int x, v7] (.int x :: st) σ τ := rr_iload dX1_add_238 rfl
theorem r15_240 (d : Nat) (ls st : List Value) (σ : am_St) (τ : Int64) (x y : Int32) : am_run d 15 240 ls (.int y :: .int x :: st) σ τ = am_run d 15 241 ls (.int (x + y) :: st) σ τ := rr_iadd dX1_add_240
theorem r15_241 (d : Nat) (ls st : List Value) (σ : am_St) (τ : Int64) : am_run d 15 241 ls st σ τ = am_run d 15 242 ls (.int 0 :: st) σ τ := rr_iconst 0 dX1_add_241 (by decide)
theorem r15_242 (d : Nat) (ls st : List Value) (σ : am_St) (τ : Int64) (x i : Int32) (k : Nat) : am_run d 15 242 ls (.int x :: .int i :: .ref k :: st) σ τ = am_ai false k i (fun j => am_run d 15 243 ls st (am_up σ k j x) τ) := rr_iast dX1_add_242
theorem r15_243 (d : Nat) (st : List Value) (σ : am_St) (τ : Int64) (x : Nat) (v1 v2 v3 v4 v5 v6 v7 : Value) : am_run d 15 243 [.ref x, v1, v2, v3, v4, v5, v6, v7] st σ τ = am_run d 15 244 [.ref x, v1, v2, v3, v4, v5, v6, v7] (.ref x :: st) σ τ := rr_aload_n dX1_add_243 rfl
theorem r15_244 (d : Nat) (ls st : List Value) (σ : am_St) (τ : Int64) (x : Nat) : am_run d 15 244 ls (.ref x :: st) σ τ = am_run d 15 245 ls (.ref x :: .ref x :: st) σ τ := rr_dup_r dX1_add_244
theorem r15_244i (d : Nat) (ls st : List Value) (σ : am_St) (τ : Int64) (x : Int32) : am_run d 15 244 ls (.int x :: st) σ τ = am_run d 15 245 ls (.int x :: .int x :: st) σ τ := rr_dup_i dX1_add_244
theorem r15_245 (d : Nat) (ls st : List Value) (σ : am_St) (τ : Int64) (k : Nat) : am_run d 15 245 ls (.ref k :: st) σ τ = am_gf k 1 0 σ τ (fun v => am_run d 15 248 ls (v :: st) σ τ) := rr_getf dX1_add_245 (by decide +kernel)
theorem r15_248 (d : Nat) (ls st : List Value) (σ : am_St) (τ : Int64) : am_run d 15 248 ls st σ τ = am_run d 15 249 ls (.int 1 :: st) σ τ := rr_iconst 1 dX1_add_248 (by decide)
theorem r15_249 (d : Nat) (ls st : List Value) (σ : am_St) (τ : Int64) (x y : Int32) : am_run d 15 249 ls (.int y :: .int x :: st) σ τ = am_run d 15 250 ls (.int (x + y) :: st) σ τ := rr_iadd dX1_add_249
theorem r15_250 (d : Nat) (ls st : List Value) (σ : am_St) (τ : Int64) (k : Nat) (x : Int32) : am_run d 15 250 ls (.int x :: .ref k :: st) σ τ = am_pf k 1 0 x σ (fun σ => am_run d 15 253 ls st σ τ) := rr_putf dX1_add_250 (by decide +kernel)
theorem r15_253 (d : Nat) (st : List Value) (σ : am_St) (τ : Int64) (x : Int32) (v0 v1 v2 v3 v4 v5 v7 : Value) : am_run d 15 253 [v0, v1, v2, v3, v4, v5, .int x, v7] st σ τ = am_run d 15 255 [v0, v1, v2, v3, v4, v5, .int x, v7] (.int x :: st) σ τ := rr_iload dX1_add_253 rfl
theorem r15_255 (d : Nat) (ls : List Value) (σ : am_St) (τ : Int64) (x : Int32) : am_run d 15 255 ls [.int x] σ τ = some (some (.int x), σ, τ) := rr_iret dX1_add_255 rfl
theorem dX1_steps_0 : decode (am_code 16) 0 = .ok (.aload_n 0, 1) := by decide +kernel
theorem dX1_steps_1 : decode (am_code 16) 1 = .ok (.getfield 40, 3) := by decide +kernel
theorem dX1_steps_4 : decode (am_code 16) 4 = .ok (.iload_n 1, 1) := by decide +kernel
theorem dX1_steps_5 : decode (am_code 16) 5 = .ok (.bipush 12, 2) := by decide +kernel
theorem dX1_steps_7 : decode (am_code 16) 7 = .ok (.imul, 1) := by decide +kernel
theorem dX1_steps_8 : decode (am_code 16) 8 = .ok (.iload_n 2, 1) := by decide +kernel
theorem dX1_steps_9 : decode (am_code 16) 9 = .ok (.iadd, 1) := by decide +kernel
theorem dX1_steps_10 : decode (am_code 16) 10 = .ok (.iaload, 1) := by decide +kernel
theorem dX1_steps_11 : decode (am_code 16) 11 = .ok (.ireturn, 1) := by decide +kernel
theorem r16_0 (d : Nat) (st : List Value) (σ : am_St) (τ : Int64) (x : Nat) (v1 v2 : Value) : am_run d 16 0 [.ref x, v1, v2] st σ τ = am_run d 16 1 [.ref x, v1, v2] (.ref x :: st) σ τ := rr_aload_n dX1_steps_0 rfl
theorem r16_1 (d : Nat) (ls st : List Value) (σ : am_St) (τ : Int64) (k : Nat) : am_run d 16 1 ls (.ref k :: st) σ τ = am_gf k 1 10 σ τ (fun v => am_run d 16 4 ls (v :: st) σ τ) := rr_getf dX1_steps_1 (by decide +kernel)
theorem r16_4 (d : Nat) (st : List Value) (σ : am_St) (τ : Int64) (x : Int32) (v0 v2 : Value) : am_run d 16 4 [v0, .int x, v2] st σ τ = am_run d 16 5 [v0, .int x, v2] (.int x :: st) σ τ := rr_iload_n dX1_steps_4 rfl
theorem r16_5 (d : Nat) (ls st : List Value) (σ : am_St) (τ : Int64) : am_run d 16 5 ls st σ τ = am_run d 16 7 ls (.int 12 :: st) σ τ := rr_bipush 12 dX1_steps_5 (by decide)
theorem r16_7 (d : Nat) (ls st : List Value) (σ : am_St) (τ : Int64) (x y : Int32) : am_run d 16 7 ls (.int y :: .int x :: st) σ τ = am_run d 16 8 ls (.int (x * y) :: st) σ τ := rr_imul dX1_steps_7
theorem r16_8 (d : Nat) (st : List Value) (σ : am_St) (τ : Int64) (x : Int32) (v0 v1 : Value) : am_run d 16 8 [v0, v1, .int x] st σ τ = am_run d 16 9 [v0, v1, .int x] (.int x :: st) σ τ := rr_iload_n dX1_steps_8 rfl
theorem r16_9 (d : Nat) (ls st : List Value) (σ : am_St) (τ : Int64) (x y : Int32) : am_run d 16 9 ls (.int y :: .int x :: st) σ τ = am_run d 16 10 ls (.int (x + y) :: st) σ τ := rr_iadd dX1_steps_9
theorem r16_10 (d : Nat) (ls st : List Value) (σ : am_St) (τ : Int64) (i : Int32) (k : Nat) : am_run d 16 10 ls (.int i :: .ref k :: st) σ τ = am_ai false k i (fun j => am_run d 16 11 ls (.int (σ k j) :: st) σ τ) := rr_iald dX1_steps_10
theorem r16_11 (d : Nat) (ls : List Value) (σ : am_St) (τ : Int64) (x : Int32) : am_run d 16 11 ls [.int x] σ τ = some (some (.int x), σ, τ) := rr_iret dX1_steps_11 rfl
theorem dX1_oneMore_0 : decode (am_code 17) 0 = .ok (.iload_n 0, 1) := by decide +kernel
theorem dX1_oneMore_1 : decode (am_code 17) 1 = .ok (.iconst (-1), 1) := by decide +kernel
theorem dX1_oneMore_2 : decode (am_code 17) 2 = .ok (.if_icmp .ne 16, 3) := by decide +kernel
theorem dX1_oneMore_5 : decode (am_code 17) 5 = .ok (.iload_n 1, 1) := by decide +kernel
theorem dX1_oneMore_6 : decode (am_code 17) 6 = .ok (.iconst (-1), 1) := by decide +kernel
theorem dX1_oneMore_7 : decode (am_code 17) 7 = .ok (.if_icmp .ne 7, 3) := by decide +kernel
theorem dX1_oneMore_10 : decode (am_code 17) 10 = .ok (.iconst (-1), 1) := by decide +kernel
theorem dX1_oneMore_11 : decode (am_code 17) 11 = .ok (.goto 6, 3) := by decide +kernel
theorem dX1_oneMore_14 : decode (am_code 17) 14 = .ok (.iload_n 1, 1) := by decide +kernel
theorem dX1_oneMore_15 : decode (am_code 17) 15 = .ok (.iconst 1, 1) := by decide +kernel
theorem dX1_oneMore_16 : decode (am_code 17) 16 = .ok (.iadd, 1) := by decide +kernel
theorem dX1_oneMore_17 : decode (am_code 17) 17 = .ok (.ireturn, 1) := by decide +kernel
theorem dX1_oneMore_18 : decode (am_code 17) 18 = .ok (.iload_n 1, 1) := by decide +kernel
theorem dX1_oneMore_19 : decode (am_code 17) 19 = .ok (.iconst (-1), 1) := by decide +kernel
theorem dX1_oneMore_20 : decode (am_code 17) 20 = .ok (.if_icmp .ne 9, 3) := by decide +kernel
theorem dX1_oneMore_23 : decode (am_code 17) 23 = .ok (.iload_n 0, 1) := by decide +kernel
theorem dX1_oneMore_24 : decode (am_code 17) 24 = .ok (.iconst 1, 1) := by decide +kernel
theorem dX1_oneMore_25 : decode (am_code 17) 25 = .ok (.iadd, 1) := by decide +kernel
theorem dX1_oneMore_26 : decode (am_code 17) 26 = .ok (.goto 10, 3) := by decide +kernel
theorem dX1_oneMore_29 : decode (am_code 17) 29 = .ok (.iload_n 0, 1) := by decide +kernel
theorem dX1_oneMore_30 : decode (am_code 17) 30 = .ok (.iload_n 1, 1) := by decide +kernel
theorem dX1_oneMore_31 : decode (am_code 17) 31 = .ok (.invokestatic 74, 3) := by decide +kernel
theorem dX1_oneMore_34 : decode (am_code 17) 34 = .ok (.iconst 1, 1) := by decide +kernel
theorem dX1_oneMore_35 : decode (am_code 17) 35 = .ok (.iadd, 1) := by decide +kernel
theorem dX1_oneMore_36 : decode (am_code 17) 36 = .ok (.ireturn, 1) := by decide +kernel
theorem r17_0 (d : Nat) (st : List Value) (σ : am_St) (τ : Int64) (x : Int32) (v1 : Value) : am_run d 17 0 [.int x, v1] st σ τ = am_run d 17 1 [.int x, v1] (.int x :: st) σ τ := rr_iload_n dX1_oneMore_0 rfl
theorem r17_1 (d : Nat) (ls st : List Value) (σ : am_St) (τ : Int64) : am_run d 17 1 ls st σ τ = am_run d 17 2 ls (.int (-1) :: st) σ τ := rr_iconst (-1) dX1_oneMore_1 (by decide)
theorem r17_2 (d : Nat) (ls st : List Value) (σ : am_St) (τ : Int64) (x y : Int32) : am_run d 17 2 ls (.int y :: .int x :: st) σ τ = if x = y then am_run d 17 5 ls st σ τ else am_run d 17 18 ls st σ τ := (rr_icmp 18 dX1_oneMore_2 (by decide)).trans am_seln
theorem r17_5 (d : Nat) (st : List Value) (σ : am_St) (τ : Int64) (x : Int32) (v0 : Value) : am_run d 17 5 [v0, .int x] st σ τ = am_run d 17 6 [v0, .int x] (.int x :: st) σ τ := rr_iload_n dX1_oneMore_5 rfl
theorem r17_6 (d : Nat) (ls st : List Value) (σ : am_St) (τ : Int64) : am_run d 17 6 ls st σ τ = am_run d 17 7 ls (.int (-1) :: st) σ τ := rr_iconst (-1) dX1_oneMore_6 (by decide)
theorem r17_7 (d : Nat) (ls st : List Value) (σ : am_St) (τ : Int64) (x y : Int32) : am_run d 17 7 ls (.int y :: .int x :: st) σ τ = if x = y then am_run d 17 10 ls st σ τ else am_run d 17 14 ls st σ τ := (rr_icmp 14 dX1_oneMore_7 (by decide)).trans am_seln
theorem r17_10 (d : Nat) (ls st : List Value) (σ : am_St) (τ : Int64) : am_run d 17 10 ls st σ τ = am_run d 17 11 ls (.int (-1) :: st) σ τ := rr_iconst (-1) dX1_oneMore_10 (by decide)
theorem r17_11 (d : Nat) (ls st : List Value) (σ : am_St) (τ : Int64) : am_run d 17 11 ls st σ τ = am_run d 17 17 ls st σ τ := rr_goto 17 dX1_oneMore_11 (by decide)
theorem r17_14 (d : Nat) (st : List Value) (σ : am_St) (τ : Int64) (x : Int32) (v0 : Value) : am_run d 17 14 [v0, .int x] st σ τ = am_run d 17 15 [v0, .int x] (.int x :: st) σ τ := rr_iload_n dX1_oneMore_14 rfl
theorem r17_15 (d : Nat) (ls st : List Value) (σ : am_St) (τ : Int64) : am_run d 17 15 ls st σ τ = am_run d 17 16 ls (.int 1 :: st) σ τ := rr_iconst 1 dX1_oneMore_15 (by decide)
theorem r17_16 (d : Nat) (ls st : List Value) (σ : am_St) (τ : Int64) (x y : Int32) : am_run d 17 16 ls (.int y :: .int x :: st) σ τ = am_run d 17 17 ls (.int (x + y) :: st) σ τ := rr_iadd dX1_oneMore_16
theorem r17_17 (d : Nat) (ls : List Value) (σ : am_St) (τ : Int64) (x : Int32) : am_run d 17 17 ls [.int x] σ τ = some (some (.int x), σ, τ) := rr_iret dX1_oneMore_17 rfl
theorem r17_18 (d : Nat) (st : List Value) (σ : am_St) (τ : Int64) (x : Int32) (v0 : Value) : am_run d 17 18 [v0, .int x] st σ τ = am_run d 17 19 [v0, .int x] (.int x :: st) σ τ := rr_iload_n dX1_oneMore_18 rfl
theorem r17_19 (d : Nat) (ls st : List Value) (σ : am_St) (τ : Int64) : am_run d 17 19 ls st σ τ = am_run d 17 20 ls (.int (-1) :: st) σ τ := rr_iconst (-1) dX1_oneMore_19 (by decide)
theorem r17_20 (d : Nat) (ls st : List Value) (σ : am_St) (τ : Int64) (x y : Int32) : am_run d 17 20 ls (.int y :: .int x :: st) σ τ = if x = y then am_run d 17 23 ls st σ τ else am_run d 17 29 ls st σ τ := (rr_icmp 29 dX1_oneMore_20 (by decide)).trans am_seln
theorem r17_23 (d : Nat) (st : List Value) (σ : am_St) (τ : Int64) (x : Int32) (v1 : Value) : am_run d 17 23 [.int x, v1] st σ τ = am_run d 17 24 [.int x, v1] (.int x :: st) σ τ := rr_iload_n dX1_oneMore_23 rfl
theorem r17_24 (d : Nat) (ls st : List Value) (σ : am_St) (τ : Int64) : am_run d 17 24 ls st σ τ = am_run d 17 25 ls (.int 1 :: st) σ τ := rr_iconst 1 dX1_oneMore_24 (by decide)
theorem r17_25 (d : Nat) (ls st : List Value) (σ : am_St) (τ : Int64) (x y : Int32) : am_run d 17 25 ls (.int y :: .int x :: st) σ τ = am_run d 17 26 ls (.int (x + y) :: st) σ τ := rr_iadd dX1_oneMore_25
theorem r17_26 (d : Nat) (ls st : List Value) (σ : am_St) (τ : Int64) : am_run d 17 26 ls st σ τ = am_run d 17 36 ls st σ τ := rr_goto 36 dX1_oneMore_26 (by decide)
theorem r17_29 (d : Nat) (st : List Value) (σ : am_St) (τ : Int64) (x : Int32) (v1 : Value) : am_run d 17 29 [.int x, v1] st σ τ = am_run d 17 30 [.int x, v1] (.int x :: st) σ τ := rr_iload_n dX1_oneMore_29 rfl
theorem r17_30 (d : Nat) (st : List Value) (σ : am_St) (τ : Int64) (x : Int32) (v0 : Value) : am_run d 17 30 [v0, .int x] st σ τ = am_run d 17 31 [v0, .int x] (.int x :: st) σ τ := rr_iload_n dX1_oneMore_30 rfl
theorem r17_31 (d : Nat) (ls st : List Value) (σ : am_St) (τ : Int64) (x y : Int32) (hc : am_cats st ≤ 8) : am_run d 17 31 ls (.int y :: .int x :: st) σ τ = am_run d 17 34 ls (.int (if y < x then y else x) :: st) σ τ := rr_min dX1_oneMore_31 (by decide +kernel) hc
theorem r17_34 (d : Nat) (ls st : List Value) (σ : am_St) (τ : Int64) : am_run d 17 34 ls st σ τ = am_run d 17 35 ls (.int 1 :: st) σ τ := rr_iconst 1 dX1_oneMore_34 (by decide)
theorem r17_35 (d : Nat) (ls st : List Value) (σ : am_St) (τ : Int64) (x y : Int32) : am_run d 17 35 ls (.int y :: .int x :: st) σ τ = am_run d 17 36 ls (.int (x + y) :: st) σ τ := rr_iadd dX1_oneMore_35
theorem r17_36 (d : Nat) (ls : List Value) (σ : am_St) (τ : Int64) (x : Int32) : am_run d 17 36 ls [.int x] σ τ = some (some (.int x), σ, τ) := rr_iret dX1_oneMore_36 rfl
theorem dX1_distance_0 : decode (am_code 18) 0 = .ok (.iconst (-1), 1) := by decide +kernel
theorem dX1_distance_1 : decode (am_code 18) 1 = .ok (.istore_n 3, 1) := by decide +kernel
theorem dX1_distance_2 : decode (am_code 18) 2 = .ok (.iconst 0, 1) := by decide +kernel
theorem dX1_distance_3 : decode (am_code 18) 3 = .ok (.istore 4, 2) := by decide +kernel
theorem dX1_distance_5 : decode (am_code 18) 5 = .ok (.iload 4, 2) := by decide +kernel
theorem dX1_distance_7 : decode (am_code 18) 7 = .ok (.aload_n 0, 1) := by decide +kernel
theorem dX1_distance_8 : decode (am_code 18) 8 = .ok (.getfield 43, 3) := by decide +kernel
theorem dX1_distance_11 : decode (am_code 18) 11 = .ok (.if_icmp .ge 59, 3) := by decide +kernel
theorem dX1_distance_14 : decode (am_code 18) 14 = .ok (.aload_n 0, 1) := by decide +kernel
theorem dX1_distance_15 : decode (am_code 18) 15 = .ok (.iload_n 1, 1) := by decide +kernel
theorem dX1_distance_16 : decode (am_code 18) 16 = .ok (.iload 4, 2) := by decide +kernel
theorem dX1_distance_18 : decode (am_code 18) 18 = .ok (.invokevirtual 68, 3) := by decide +kernel
theorem dX1_distance_21 : decode (am_code 18) 21 = .ok (.istore 5, 2) := by decide +kernel
theorem dX1_distance_23 : decode (am_code 18) 23 = .ok (.aload_n 0, 1) := by decide +kernel
theorem dX1_distance_24 : decode (am_code 18) 24 = .ok (.iload_n 2, 1) := by decide +kernel
theorem dX1_distance_25 : decode (am_code 18) 25 = .ok (.iload 4, 2) := by decide +kernel
theorem dX1_distance_27 : decode (am_code 18) 27 = .ok (.invokevirtual 68, 3) := by decide +kernel
theorem dX1_distance_30 : decode (am_code 18) 30 = .ok (.istore 6, 2) := by decide +kernel
theorem dX1_distance_32 : decode (am_code 18) 32 = .ok (.iload 5, 2) := by decide +kernel
theorem dX1_distance_34 : decode (am_code 18) 34 = .ok (.iconst (-1), 1) := by decide +kernel
theorem dX1_distance_35 : decode (am_code 18) 35 = .ok (.if_icmp .eq 29, 3) := by decide +kernel
theorem dX1_distance_38 : decode (am_code 18) 38 = .ok (.iload 6, 2) := by decide +kernel
theorem dX1_distance_40 : decode (am_code 18) 40 = .ok (.iconst (-1), 1) := by decide +kernel
theorem dX1_distance_41 : decode (am_code 18) 41 = .ok (.if_icmp .eq 23, 3) := by decide +kernel
theorem dX1_distance_44 : decode (am_code 18) 44 = .ok (.iload_n 3, 1) := by decide +kernel
theorem dX1_distance_45 : decode (am_code 18) 45 = .ok (.iconst (-1), 1) := by decide +kernel
theorem dX1_distance_46 : decode (am_code 18) 46 = .ok (.if_icmp .eq 12, 3) := by decide +kernel
theorem dX1_distance_49 : decode (am_code 18) 49 = .ok (.iload 5, 2) := by decide +kernel
theorem dX1_distance_51 : decode (am_code 18) 51 = .ok (.iload 6, 2) := by decide +kernel
theorem dX1_distance_53 : decode (am_code 18) 53 = .ok (.iadd, 1) := by decide +kernel
theorem dX1_distance_54 : decode (am_code 18) 54 = .ok (.iload_n 3, 1) := by decide +kernel
theorem dX1_distance_55 : decode (am_code 18) 55 = .ok (.if_icmp .ge 9, 3) := by decide +kernel
theorem dX1_distance_58 : decode (am_code 18) 58 = .ok (.iload 5, 2) := by decide +kernel
theorem dX1_distance_60 : decode (am_code 18) 60 = .ok (.iload 6, 2) := by decide +kernel
theorem dX1_distance_62 : decode (am_code 18) 62 = .ok (.iadd, 1) := by decide +kernel
theorem dX1_distance_63 : decode (am_code 18) 63 = .ok (.istore_n 3, 1) := by decide +kernel
theorem dX1_distance_64 : decode (am_code 18) 64 = .ok (.iinc 4 1, 3) := by decide +kernel
theorem dX1_distance_67 : decode (am_code 18) 67 = .ok (.goto (-62), 3) := by decide +kernel
theorem dX1_distance_70 : decode (am_code 18) 70 = .ok (.iload_n 3, 1) := by decide +kernel
theorem dX1_distance_71 : decode (am_code 18) 71 = .ok (.ireturn, 1) := by decide +kernel
theorem r18_0 (d : Nat) (ls st : List Value) (σ : am_St) (τ : Int64) : am_run d 18 0 ls st σ τ = am_run d 18 1 ls (.int (-1) :: st) σ τ := rr_iconst (-1) dX1_distance_0 (by decide)
theorem r18_1 (d : Nat) (st : List Value) (σ : am_St) (τ : Int64) (x : Int32) (v0 v1 v2 v3 v4 v5 v6 : Value) : am_run d 18 1 [v0, v1, v2, v3, v4, v5, v6] (.int x :: st) σ τ = am_run d 18 2 [v0, v1, am_nl v2, .int x, v4, v5, v6] st σ τ := rr_istore_n _ dX1_distance_1 (by decide) (by first | rfl | (by_cases h : v2.category = 2 <;> simp [am_set1, am_nl, h]))
theorem r18_2 (d : Nat) (ls st : List Value) (σ : am_St) (τ : Int64) : am_run d 18 2 ls st σ τ = am_run d 18 3 ls (.int 0 :: st) σ τ := rr_iconst 0 dX1_distance_2 (by decide)
theorem r18_3 (d : Nat) (st : List Value) (σ : am_St) (τ : Int64) (x : Int32) (v0 v1 v2 v3 v4 v5 v6 : Value) : am_run d 18 3 [v0, v1, v2, v3, v4, v5, v6] (.int x :: st) σ τ = am_run d 18 5 [v0, v1, v2, am_nl v3, .int x, v5, v6] st σ τ := rr_istore _ dX1_distance_3 (by decide) (by first | rfl | (by_cases h : v3.category = 2 <;> simp [am_set1, am_nl, h]))
theorem r18_5 (d : Nat) (st : List Value) (σ : am_St) (τ : Int64) (x : Int32) (v0 v1 v2 v3 v5 v6 : Value) : am_run d 18 5 [v0, v1, v2, v3, .int x, v5, v6] st σ τ = am_run d 18 7 [v0, v1, v2, v3, .int x, v5, v6] (.int x :: st) σ τ := rr_iload dX1_distance_5 rfl
theorem r18_7 (d : Nat) (st : List Value) (σ : am_St) (τ : Int64) (x : Nat) (v1 v2 v3 v4 v5 v6 : Value) : am_run d 18 7 [.ref x, v1, v2, v3, v4, v5, v6] st σ τ = am_run d 18 8 [.ref x, v1, v2, v3, v4, v5, v6] (.ref x :: st) σ τ := rr_aload_n dX1_distance_7 rfl
theorem r18_8 (d : Nat) (ls st : List Value) (σ : am_St) (τ : Int64) (k : Nat) : am_run d 18 8 ls (.ref k :: st) σ τ = am_gf k 1 0 σ τ (fun v => am_run d 18 11 ls (v :: st) σ τ) := rr_getf dX1_distance_8 (by decide +kernel)
theorem r18_11 (d : Nat) (ls st : List Value) (σ : am_St) (τ : Int64) (x y : Int32) : am_run d 18 11 ls (.int y :: .int x :: st) σ τ = if y ≤ x then am_run d 18 70 ls st σ τ else am_run d 18 14 ls st σ τ := (rr_icmp 70 dX1_distance_11 (by decide)).trans am_sel
theorem r18_14 (d : Nat) (st : List Value) (σ : am_St) (τ : Int64) (x : Nat) (v1 v2 v3 v4 v5 v6 : Value) : am_run d 18 14 [.ref x, v1, v2, v3, v4, v5, v6] st σ τ = am_run d 18 15 [.ref x, v1, v2, v3, v4, v5, v6] (.ref x :: st) σ τ := rr_aload_n dX1_distance_14 rfl
theorem r18_15 (d : Nat) (st : List Value) (σ : am_St) (τ : Int64) (x : Int32) (v0 v2 v3 v4 v5 v6 : Value) : am_run d 18 15 [v0, .int x, v2, v3, v4, v5, v6] st σ τ = am_run d 18 16 [v0, .int x, v2, v3, v4, v5, v6] (.int x :: st) σ τ := rr_iload_n dX1_distance_15 rfl
theorem r18_16 (d : Nat) (st : List Value) (σ : am_St) (τ : Int64) (x : Int32) (v0 v1 v2 v3 v5 v6 : Value) : am_run d 18 16 [v0, v1, v2, v3, .int x, v5, v6] st σ τ = am_run d 18 18 [v0, v1, v2, v3, .int x, v5, v6] (.int x :: st) σ τ := rr_iload dX1_distance_16 rfl
theorem r18_18 (d : Nat) (ls st : List Value) (σ : am_St) (τ : Int64) (k : Nat) (a0 : Int32) (a1 : Int32) (hk : am_kc k = 1) (hc : am_cats st ≤ 8) : am_run (d + 1) 18 18 ls (.int a1 :: .int a0 :: .ref k :: st) σ τ = (am_call d 16 [.ref k, .int a0, .int a1] σ τ).bind (fun r => am_run (d + 1) 18 21 ls (r.1.toList ++ st) r.2.1 r.2.2) := rr_invv [.int a0, .int a1] dX1_distance_18 (by decide +kernel) (by decide) rfl (Nat.le_of_ble_eq_true rfl) hk hc
theorem r18_21 (d : Nat) (st : List Value) (σ : am_St) (τ : Int64) (x : Int32) (v0 v1 v2 v3 v4 v5 v6 : Value) : am_run d 18 21 [v0, v1, v2, v3, v4, v5, v6] (.int x :: st) σ τ = am_run d 18 23 [v0, v1, v2, v3, am_nl v4, .int x, v6] st σ τ := rr_istore _ dX1_distance_21 (by decide) (by first | rfl | (by_cases h : v4.category = 2 <;> simp [am_set1, am_nl, h]))
theorem r18_23 (d : Nat) (st : List Value) (σ : am_St) (τ : Int64) (x : Nat) (v1 v2 v3 v4 v5 v6 : Value) : am_run d 18 23 [.ref x, v1, v2, v3, v4, v5, v6] st σ τ = am_run d 18 24 [.ref x, v1, v2, v3, v4, v5, v6] (.ref x :: st) σ τ := rr_aload_n dX1_distance_23 rfl
theorem r18_24 (d : Nat) (st : List Value) (σ : am_St) (τ : Int64) (x : Int32) (v0 v1 v3 v4 v5 v6 : Value) : am_run d 18 24 [v0, v1, .int x, v3, v4, v5, v6] st σ τ = am_run d 18 25 [v0, v1, .int x, v3, v4, v5, v6] (.int x :: st) σ τ := rr_iload_n dX1_distance_24 rfl
theorem r18_25 (d : Nat) (st : List Value) (σ : am_St) (τ : Int64) (x : Int32) (v0 v1 v2 v3 v5 v6 : Value) : am_run d 18 25 [v0, v1, v2, v3, .int x, v5, v6] st σ τ = am_run d 18 27 [v0, v1, v2, v3, .int x, v5, v6] (.int x :: st) σ τ := rr_iload dX1_distance_25 rfl
theorem r18_27 (d : Nat) (ls st : List Value) (σ : am_St) (τ : Int64) (k : Nat) (a0 : Int32) (a1 : Int32) (hk : am_kc k = 1) (hc : am_cats st ≤ 8) : am_run (d + 1) 18 27 ls (.int a1 :: .int a0 :: .ref k :: st) σ τ = (am_call d 16 [.ref k, .int a0, .int a1] σ τ).bind (fun r => am_run (d + 1) 18 30 ls (r.1.toList ++ st) r.2.1 r.2.2) := rr_invv [.int a0, .int a1] dX1_distance_27 (by decide +kernel) (by decide) rfl (Nat.le_of_ble_eq_true rfl) hk hc
theorem r18_30 (d : Nat) (st : List Value) (σ : am_St) (τ : Int64) (x : Int32) (v0 v1 v2 v3 v4 v5 v6 : Value) : am_run d 18 30 [v0, v1, v2, v3, v4, v5, v6] (.int x :: st) σ τ = am_run d 18 32 [v0, v1, v2, v3, v4, am_nl v5, .int x] st σ τ := rr_istore _ dX1_distance_30 (by decide) (by first | rfl | (by_cases h : v5.category = 2 <;> simp [am_set1, am_nl, h]))
theorem r18_32 (d : Nat) (st : List Value) (σ : am_St) (τ : Int64) (x : Int32) (v0 v1 v2 v3 v4 v6 : Value) : am_run d 18 32 [v0, v1, v2, v3, v4, .int x, v6] st σ τ = am_run d 18 34 [v0, v1, v2, v3, v4, .int x, v6] (.int x :: st) σ τ := rr_iload dX1_distance_32 rfl
theorem r18_34 (d : Nat) (ls st : List Value) (σ : am_St) (τ : Int64) : am_run d 18 34 ls st σ τ = am_run d 18 35 ls (.int (-1) :: st) σ τ := rr_iconst (-1) dX1_distance_34 (by decide)
theorem r18_35 (d : Nat) (ls st : List Value) (σ : am_St) (τ : Int64) (x y : Int32) : am_run d 18 35 ls (.int y :: .int x :: st) σ τ = if x = y then am_run d 18 64 ls st σ τ else am_run d 18 38 ls st σ τ := (rr_icmp 64 dX1_distance_35 (by decide)).trans am_sel
theorem r18_38 (d : Nat) (st : List Value) (σ : am_St) (τ : Int64) (x : Int32) (v0 v1 v2 v3 v4 v5 : Value) : am_run d 18 38 [v0, v1, v2, v3, v4, v5, .int x] st σ τ = am_run d 18 40 [v0, v1, v2, v3, v4, v5, .int x] (.int x :: st) σ τ := rr_iload dX1_distance_38 rfl
theorem r18_40 (d : Nat) (ls st : List Value) (σ : am_St) (τ : Int64) : am_run d 18 40 ls st σ τ = am_run d 18 41 ls (.int (-1) :: st) σ τ := rr_iconst (-1) dX1_distance_40 (by decide)
theorem r18_41 (d : Nat) (ls st : List Value) (σ : am_St) (τ : Int64) (x y : Int32) : am_run d 18 41 ls (.int y :: .int x :: st) σ τ = if x = y then am_run d 18 64 ls st σ τ else am_run d 18 44 ls st σ τ := (rr_icmp 64 dX1_distance_41 (by decide)).trans am_sel
theorem r18_44 (d : Nat) (st : List Value) (σ : am_St) (τ : Int64) (x : Int32) (v0 v1 v2 v4 v5 v6 : Value) : am_run d 18 44 [v0, v1, v2, .int x, v4, v5, v6] st σ τ = am_run d 18 45 [v0, v1, v2, .int x, v4, v5, v6] (.int x :: st) σ τ := rr_iload_n dX1_distance_44 rfl
theorem r18_45 (d : Nat) (ls st : List Value) (σ : am_St) (τ : Int64) : am_run d 18 45 ls st σ τ = am_run d 18 46 ls (.int (-1) :: st) σ τ := rr_iconst (-1) dX1_distance_45 (by decide)
theorem r18_46 (d : Nat) (ls st : List Value) (σ : am_St) (τ : Int64) (x y : Int32) : am_run d 18 46 ls (.int y :: .int x :: st) σ τ = if x = y then am_run d 18 58 ls st σ τ else am_run d 18 49 ls st σ τ := (rr_icmp 58 dX1_distance_46 (by decide)).trans am_sel
theorem r18_49 (d : Nat) (st : List Value) (σ : am_St) (τ : Int64) (x : Int32) (v0 v1 v2 v3 v4 v6 : Value) : am_run d 18 49 [v0, v1, v2, v3, v4, .int x, v6] st σ τ = am_run d 18 51 [v0, v1, v2, v3, v4, .int x, v6] (.int x :: st) σ τ := rr_iload dX1_distance_49 rfl
theorem r18_51 (d : Nat) (st : List Value) (σ : am_St) (τ : Int64) (x : Int32) (v0 v1 v2 v3 v4 v5 : Value) : am_run d 18 51 [v0, v1, v2, v3, v4, v5, .int x] st σ τ = am_run d 18 53 [v0, v1, v2, v3, v4, v5, .int x] (.int x :: st) σ τ := rr_iload dX1_distance_51 rfl
theorem r18_53 (d : Nat) (ls st : List Value) (σ : am_St) (τ : Int64) (x y : Int32) : am_run d 18 53 ls (.int y :: .int x :: st) σ τ = am_run d 18 54 ls (.int (x + y) :: st) σ τ := rr_iadd dX1_distance_53
theorem r18_54 (d : Nat) (st : List Value) (σ : am_St) (τ : Int64) (x : Int32) (v0 v1 v2 v4 v5 v6 : Value) : am_run d 18 54 [v0, v1, v2, .int x, v4, v5, v6] st σ τ = am_run d 18 55 [v0, v1, v2, .int x, v4, v5, v6] (.int x :: st) σ τ := rr_iload_n dX1_distance_54 rfl
theorem r18_55 (d : Nat) (ls st : List Value) (σ : am_St) (τ : Int64) (x y : Int32) : am_run d 18 55 ls (.int y :: .int x :: st) σ τ = if y ≤ x then am_run d 18 64 ls st σ τ else am_run d 18 58 ls st σ τ := (rr_icmp 64 dX1_distance_55 (by decide)).trans am_sel
theorem r18_58 (d : Nat) (st : List Value) (σ : am_St) (τ : Int64) (x : Int32) (v0 v1 v2 v3 v4 v6 : Value) : am_run d 18 58 [v0, v1, v2, v3, v4, .int x, v6] st σ τ = am_run d 18 60 [v0, v1, v2, v3, v4, .int x, v6] (.int x :: st) σ τ := rr_iload dX1_distance_58 rfl
theorem r18_60 (d : Nat) (st : List Value) (σ : am_St) (τ : Int64) (x : Int32) (v0 v1 v2 v3 v4 v5 : Value) : am_run d 18 60 [v0, v1, v2, v3, v4, v5, .int x] st σ τ = am_run d 18 62 [v0, v1, v2, v3, v4, v5, .int x] (.int x :: st) σ τ := rr_iload dX1_distance_60 rfl
theorem r18_62 (d : Nat) (ls st : List Value) (σ : am_St) (τ : Int64) (x y : Int32) : am_run d 18 62 ls (.int y :: .int x :: st) σ τ = am_run d 18 63 ls (.int (x + y) :: st) σ τ := rr_iadd dX1_distance_62
theorem r18_63 (d : Nat) (st : List Value) (σ : am_St) (τ : Int64) (x : Int32) (v0 v1 v2 v3 v4 v5 v6 : Value) : am_run d 18 63 [v0, v1, v2, v3, v4, v5, v6] (.int x :: st) σ τ = am_run d 18 64 [v0, v1, am_nl v2, .int x, v4, v5, v6] st σ τ := rr_istore_n _ dX1_distance_63 (by decide) (by first | rfl | (by_cases h : v2.category = 2 <;> simp [am_set1, am_nl, h]))
theorem r18_64 (d : Nat) (st : List Value) (σ : am_St) (τ : Int64) (x : Int32) (v0 v1 v2 v3 v5 v6 : Value) : am_run d 18 64 [v0, v1, v2, v3, .int x, v5, v6] st σ τ = am_run d 18 67 [v0, v1, v2, am_nl v3, .int (x + 1), v5, v6] st σ τ := rr_iinc 1 _ dX1_distance_64 rfl (by decide) (by decide) (by first | rfl | (by_cases h : v3.category = 2 <;> simp [am_set1, am_nl, h]))
theorem r18_67 (d : Nat) (ls st : List Value) (σ : am_St) (τ : Int64) : am_run d 18 67 ls st σ τ = am_run d 18 5 ls st σ τ := rr_goto 5 dX1_distance_67 (by decide)
theorem r18_70 (d : Nat) (st : List Value) (σ : am_St) (τ : Int64) (x : Int32) (v0 v1 v2 v4 v5 v6 : Value) : am_run d 18 70 [v0, v1, v2, .int x, v4, v5, v6] st σ τ = am_run d 18 71 [v0, v1, v2, .int x, v4, v5, v6] (.int x :: st) σ τ := rr_iload_n dX1_distance_70 rfl
theorem r18_71 (d : Nat) (ls : List Value) (σ : am_St) (τ : Int64) (x : Int32) : am_run d 18 71 ls [.int x] σ τ = some (some (.int x), σ, τ) := rr_iret dX1_distance_71 rfl
theorem dX1_nearestLiving_0 : decode (am_code 19) 0 = .ok (.iconst (-1), 1) := by decide +kernel
theorem dX1_nearestLiving_1 : decode (am_code 19) 1 = .ok (.istore_n 2, 1) := by decide +kernel
theorem dX1_nearestLiving_2 : decode (am_code 19) 2 = .ok (.iconst (-1), 1) := by decide +kernel
theorem dX1_nearestLiving_3 : decode (am_code 19) 3 = .ok (.istore_n 3, 1) := by decide +kernel
theorem dX1_nearestLiving_4 : decode (am_code 19) 4 = .ok (.iconst 0, 1) := by decide +kernel
theorem dX1_nearestLiving_5 : decode (am_code 19) 5 = .ok (.istore 4, 2) := by decide +kernel
theorem dX1_nearestLiving_7 : decode (am_code 19) 7 = .ok (.iload 4, 2) := by decide +kernel
theorem dX1_nearestLiving_9 : decode (am_code 19) 9 = .ok (.aload_n 0, 1) := by decide +kernel
theorem dX1_nearestLiving_10 : decode (am_code 19) 10 = .ok (.getfield 43, 3) := by decide +kernel
theorem dX1_nearestLiving_13 : decode (am_code 19) 13 = .ok (.if_icmp .ge 61, 3) := by decide +kernel
theorem dX1_nearestLiving_16 : decode (am_code 19) 16 = .ok (.iload 4, 2) := by decide +kernel
theorem dX1_nearestLiving_18 : decode (am_code 19) 18 = .ok (.iload_n 1, 1) := by decide +kernel
theorem dX1_nearestLiving_19 : decode (am_code 19) 19 = .ok (.if_icmp .eq 23, 3) := by decide +kernel
theorem dX1_nearestLiving_22 : decode (am_code 19) 22 = .ok (.aload_n 0, 1) := by decide +kernel
theorem dX1_nearestLiving_23 : decode (am_code 19) 23 = .ok (.getfield 37, 3) := by decide +kernel
theorem dX1_nearestLiving_26 : decode (am_code 19) 26 = .ok (.iload 4, 2) := by decide +kernel
theorem dX1_nearestLiving_28 : decode (am_code 19) 28 = .ok (.baload, 1) := by decide +kernel
theorem dX1_nearestLiving_29 : decode (am_code 19) 29 = .ok (.ifCond .eq 13, 3) := by decide +kernel
theorem dX1_nearestLiving_32 : decode (am_code 19) 32 = .ok (.aload_n 0, 1) := by decide +kernel
theorem dX1_nearestLiving_33 : decode (am_code 19) 33 = .ok (.iload_n 1, 1) := by decide +kernel
theorem dX1_nearestLiving_34 : decode (am_code 19) 34 = .ok (.iload 4, 2) := by decide +kernel
theorem dX1_nearestLiving_36 : decode (am_code 19) 36 = .ok (.invokevirtual 77, 3) := by decide +kernel
theorem dX1_nearestLiving_39 : decode (am_code 19) 39 = .ok (.goto 4, 3) := by decide +kernel
theorem dX1_nearestLiving_42 : decode (am_code 19) 42 = .ok (.iconst (-1), 1) := by decide +kernel
theorem dX1_nearestLiving_43 : decode (am_code 19) 43 = .ok (.istore 5, 2) := by decide +kernel
theorem dX1_nearestLiving_45 : decode (am_code 19) 45 = .ok (.iload 5, 2) := by decide +kernel
theorem dX1_nearestLiving_47 : decode (am_code 19) 47 = .ok (.iconst (-1), 1) := by decide +kernel
theorem dX1_nearestLiving_48 : decode (am_code 19) 48 = .ok (.if_icmp .eq 20, 3) := by decide +kernel
theorem dX1_nearestLiving_51 : decode (am_code 19) 51 = .ok (.iload_n 3, 1) := by decide +kernel
theorem dX1_nearestLiving_52 : decode (am_code 19) 52 = .ok (.iconst (-1), 1) := by decide +kernel
theorem dX1_nearestLiving_53 : decode (am_code 19) 53 = .ok (.if_icmp .eq 9, 3) := by decide +kernel
theorem dX1_nearestLiving_56 : decode (am_code 19) 56 = .ok (.iload 5, 2) := by decide +kernel
theorem dX1_nearestLiving_58 : decode (am_code 19) 58 = .ok (.iload_n 3, 1) := by decide +kernel
theorem dX1_nearestLiving_59 : decode (am_code 19) 59 = .ok (.if_icmp .ge 9, 3) := by decide +kernel
theorem dX1_nearestLiving_62 : decode (am_code 19) 62 = .ok (.iload 4, 2) := by decide +kernel
theorem dX1_nearestLiving_64 : decode (am_code 19) 64 = .ok (.istore_n 2, 1) := by decide +kernel
theorem dX1_nearestLiving_65 : decode (am_code 19) 65 = .ok (.iload 5, 2) := by decide +kernel
theorem dX1_nearestLiving_67 : decode (am_code 19) 67 = .ok (.istore_n 3, 1) := by decide +kernel
theorem dX1_nearestLiving_68 : decode (am_code 19) 68 = .ok (.iinc 4 1, 3) := by decide +kernel
theorem dX1_nearestLiving_71 : decode (am_code 19) 71 = .ok (.goto (-64), 3) := by decide +kernel
theorem dX1_nearestLiving_74 : decode (am_code 19) 74 = .ok (.iload_n 2, 1) := by decide +kernel
theorem dX1_nearestLiving_75 : decode (am_code 19) 75 = .ok (.ireturn, 1) := by decide +kernel
theorem r19_0 (d : Nat) (ls st : List Value) (σ : am_St) (τ : Int64) : am_run d 19 0 ls st σ τ = am_run d 19 1 ls (.int (-1) :: st) σ τ := rr_iconst (-1) dX1_nearestLiving_0 (by decide)
theorem r19_1 (d : Nat) (st : List Value) (σ : am_St) (τ : Int64) (x : Int32) (v0 v1 v2 v3 v4 v5 : Value) : am_run d 19 1 [v0, v1, v2, v3, v4, v5] (.int x :: st) σ τ = am_run d 19 2 [v0, am_nl v1, .int x, v3, v4, v5] st σ τ := rr_istore_n _ dX1_nearestLiving_1 (by decide) (by first | rfl | (by_cases h : v1.category = 2 <;> simp [am_set1, am_nl, h]))
theorem r19_2 (d : Nat) (ls st : List Value) (σ : am_St) (τ : Int64) : am_run d 19 2 ls st σ τ = am_run d 19 3 ls (.int (-1) :: st) σ τ := rr_iconst (-1) dX1_nearestLiving_2 (by decide)
theorem r19_3 (d : Nat) (st : List Value) (σ : am_St) (τ : Int64) (x : Int32) (v0 v1 v2 v3 v4 v5 : Value) : am_run d 19 3 [v0, v1, v2, v3, v4, v5] (.int x :: st) σ τ = am_run d 19 4 [v0, v1, am_nl v2, .int x, v4, v5] st σ τ := rr_istore_n _ dX1_nearestLiving_3 (by decide) (by first | rfl | (by_cases h : v2.category = 2 <;> simp [am_set1, am_nl, h]))
theorem r19_4 (d : Nat) (ls st : List Value) (σ : am_St) (τ : Int64) : am_run d 19 4 ls st σ τ = am_run d 19 5 ls (.int 0 :: st) σ τ := rr_iconst 0 dX1_nearestLiving_4 (by decide)
theorem r19_5 (d : Nat) (st : List Value) (σ : am_St) (τ : Int64) (x : Int32) (v0 v1 v2 v3 v4 v5 : Value) : am_run d 19 5 [v0, v1, v2, v3, v4, v5] (.int x :: st) σ τ = am_run d 19 7 [v0, v1, v2, am_nl v3, .int x, v5] st σ τ := rr_istore _ dX1_nearestLiving_5 (by decide) (by first | rfl | (by_cases h : v3.category = 2 <;> simp [am_set1, am_nl, h]))
theorem r19_7 (d : Nat) (st : List Value) (σ : am_St) (τ : Int64) (x : Int32) (v0 v1 v2 v3 v5 : Value) : am_run d 19 7 [v0, v1, v2, v3, .int x, v5] st σ τ = am_run d 19 9 [v0, v1, v2, v3, .int x, v5] (.int x :: st) σ τ := rr_iload dX1_nearestLiving_7 rfl
theorem r19_9 (d : Nat) (st : List Value) (σ : am_St) (τ : Int64) (x : Nat) (v1 v2 v3 v4 v5 : Value) : am_run d 19 9 [.ref x, v1, v2, v3, v4, v5] st σ τ = am_run d 19 10 [.ref x, v1, v2, v3, v4, v5] (.ref x :: st) σ τ := rr_aload_n dX1_nearestLiving_9 rfl
theorem r19_10 (d : Nat) (ls st : List Value) (σ : am_St) (τ : Int64) (k : Nat) : am_run d 19 10 ls (.ref k :: st) σ τ = am_gf k 1 0 σ τ (fun v => am_run d 19 13 ls (v :: st) σ τ) := rr_getf dX1_nearestLiving_10 (by decide +kernel)
theorem r19_13 (d : Nat) (ls st : List Value) (σ : am_St) (τ : Int64) (x y : Int32) : am_run d 19 13 ls (.int y :: .int x :: st) σ τ = if y ≤ x then am_run d 19 74 ls st σ τ else am_run d 19 16 ls st σ τ := (rr_icmp 74 dX1_nearestLiving_13 (by decide)).trans am_sel
theorem r19_16 (d : Nat) (st : List Value) (σ : am_St) (τ : Int64) (x : Int32) (v0 v1 v2 v3 v5 : Value) : am_run d 19 16 [v0, v1, v2, v3, .int x, v5] st σ τ = am_run d 19 18 [v0, v1, v2, v3, .int x, v5] (.int x :: st) σ τ := rr_iload dX1_nearestLiving_16 rfl
theorem r19_18 (d : Nat) (st : List Value) (σ : am_St) (τ : Int64) (x : Int32) (v0 v2 v3 v4 v5 : Value) : am_run d 19 18 [v0, .int x, v2, v3, v4, v5] st σ τ = am_run d 19 19 [v0, .int x, v2, v3, v4, v5] (.int x :: st) σ τ := rr_iload_n dX1_nearestLiving_18 rfl
theorem r19_19 (d : Nat) (ls st : List Value) (σ : am_St) (τ : Int64) (x y : Int32) : am_run d 19 19 ls (.int y :: .int x :: st) σ τ = if x = y then am_run d 19 42 ls st σ τ else am_run d 19 22 ls st σ τ := (rr_icmp 42 dX1_nearestLiving_19 (by decide)).trans am_sel
theorem r19_22 (d : Nat) (st : List Value) (σ : am_St) (τ : Int64) (x : Nat) (v1 v2 v3 v4 v5 : Value) : am_run d 19 22 [.ref x, v1, v2, v3, v4, v5] st σ τ = am_run d 19 23 [.ref x, v1, v2, v3, v4, v5] (.ref x :: st) σ τ := rr_aload_n dX1_nearestLiving_22 rfl
theorem r19_23 (d : Nat) (ls st : List Value) (σ : am_St) (τ : Int64) (k : Nat) : am_run d 19 23 ls (.ref k :: st) σ τ = am_gf k 1 9 σ τ (fun v => am_run d 19 26 ls (v :: st) σ τ) := rr_getf dX1_nearestLiving_23 (by decide +kernel)
theorem r19_26 (d : Nat) (st : List Value) (σ : am_St) (τ : Int64) (x : Int32) (v0 v1 v2 v3 v5 : Value) : am_run d 19 26 [v0, v1, v2, v3, .int x, v5] st σ τ = am_run d 19 28 [v0, v1, v2, v3, .int x, v5] (.int x :: st) σ τ := rr_iload dX1_nearestLiving_26 rfl
theorem r19_28 (d : Nat) (ls st : List Value) (σ : am_St) (τ : Int64) (i : Int32) (k : Nat) : am_run d 19 28 ls (.int i :: .ref k :: st) σ τ = am_ai true k i (fun j => am_run d 19 29 ls (.int (σ k j) :: st) σ τ) := rr_bald dX1_nearestLiving_28
theorem r19_29 (d : Nat) (ls st : List Value) (σ : am_St) (τ : Int64) (x : Int32) : am_run d 19 29 ls (.int x :: st) σ τ = if x = 0 then am_run d 19 42 ls st σ τ else am_run d 19 32 ls st σ τ := (rr_if 42 dX1_nearestLiving_29 (by decide)).trans am_sel
theorem r19_32 (d : Nat) (st : List Value) (σ : am_St) (τ : Int64) (x : Nat) (v1 v2 v3 v4 v5 : Value) : am_run d 19 32 [.ref x, v1, v2, v3, v4, v5] st σ τ = am_run d 19 33 [.ref x, v1, v2, v3, v4, v5] (.ref x :: st) σ τ := rr_aload_n dX1_nearestLiving_32 rfl
theorem r19_33 (d : Nat) (st : List Value) (σ : am_St) (τ : Int64) (x : Int32) (v0 v2 v3 v4 v5 : Value) : am_run d 19 33 [v0, .int x, v2, v3, v4, v5] st σ τ = am_run d 19 34 [v0, .int x, v2, v3, v4, v5] (.int x :: st) σ τ := rr_iload_n dX1_nearestLiving_33 rfl
theorem r19_34 (d : Nat) (st : List Value) (σ : am_St) (τ : Int64) (x : Int32) (v0 v1 v2 v3 v5 : Value) : am_run d 19 34 [v0, v1, v2, v3, .int x, v5] st σ τ = am_run d 19 36 [v0, v1, v2, v3, .int x, v5] (.int x :: st) σ τ := rr_iload dX1_nearestLiving_34 rfl
theorem r19_36 (d : Nat) (ls st : List Value) (σ : am_St) (τ : Int64) (k : Nat) (a0 : Int32) (a1 : Int32) (hk : am_kc k = 1) (hc : am_cats st ≤ 8) : am_run (d + 1) 19 36 ls (.int a1 :: .int a0 :: .ref k :: st) σ τ = (am_call d 18 [.ref k, .int a0, .int a1] σ τ).bind (fun r => am_run (d + 1) 19 39 ls (r.1.toList ++ st) r.2.1 r.2.2) := rr_invv [.int a0, .int a1] dX1_nearestLiving_36 (by decide +kernel) (by decide) rfl (Nat.le_of_ble_eq_true rfl) hk hc
theorem r19_39 (d : Nat) (ls st : List Value) (σ : am_St) (τ : Int64) : am_run d 19 39 ls st σ τ = am_run d 19 43 ls st σ τ := rr_goto 43 dX1_nearestLiving_39 (by decide)
theorem r19_42 (d : Nat) (ls st : List Value) (σ : am_St) (τ : Int64) : am_run d 19 42 ls st σ τ = am_run d 19 43 ls (.int (-1) :: st) σ τ := rr_iconst (-1) dX1_nearestLiving_42 (by decide)
theorem r19_43 (d : Nat) (st : List Value) (σ : am_St) (τ : Int64) (x : Int32) (v0 v1 v2 v3 v4 v5 : Value) : am_run d 19 43 [v0, v1, v2, v3, v4, v5] (.int x :: st) σ τ = am_run d 19 45 [v0, v1, v2, v3, am_nl v4, .int x] st σ τ := rr_istore _ dX1_nearestLiving_43 (by decide) (by first | rfl | (by_cases h : v4.category = 2 <;> simp [am_set1, am_nl, h]))
theorem r19_45 (d : Nat) (st : List Value) (σ : am_St) (τ : Int64) (x : Int32) (v0 v1 v2 v3 v4 : Value) : am_run d 19 45 [v0, v1, v2, v3, v4, .int x] st σ τ = am_run d 19 47 [v0, v1, v2, v3, v4, .int x] (.int x :: st) σ τ := rr_iload dX1_nearestLiving_45 rfl
theorem r19_47 (d : Nat) (ls st : List Value) (σ : am_St) (τ : Int64) : am_run d 19 47 ls st σ τ = am_run d 19 48 ls (.int (-1) :: st) σ τ := rr_iconst (-1) dX1_nearestLiving_47 (by decide)
theorem r19_48 (d : Nat) (ls st : List Value) (σ : am_St) (τ : Int64) (x y : Int32) : am_run d 19 48 ls (.int y :: .int x :: st) σ τ = if x = y then am_run d 19 68 ls st σ τ else am_run d 19 51 ls st σ τ := (rr_icmp 68 dX1_nearestLiving_48 (by decide)).trans am_sel
theorem r19_51 (d : Nat) (st : List Value) (σ : am_St) (τ : Int64) (x : Int32) (v0 v1 v2 v4 v5 : Value) : am_run d 19 51 [v0, v1, v2, .int x, v4, v5] st σ τ = am_run d 19 52 [v0, v1, v2, .int x, v4, v5] (.int x :: st) σ τ := rr_iload_n dX1_nearestLiving_51 rfl
theorem r19_52 (d : Nat) (ls st : List Value) (σ : am_St) (τ : Int64) : am_run d 19 52 ls st σ τ = am_run d 19 53 ls (.int (-1) :: st) σ τ := rr_iconst (-1) dX1_nearestLiving_52 (by decide)
theorem r19_53 (d : Nat) (ls st : List Value) (σ : am_St) (τ : Int64) (x y : Int32) : am_run d 19 53 ls (.int y :: .int x :: st) σ τ = if x = y then am_run d 19 62 ls st σ τ else am_run d 19 56 ls st σ τ := (rr_icmp 62 dX1_nearestLiving_53 (by decide)).trans am_sel
theorem r19_56 (d : Nat) (st : List Value) (σ : am_St) (τ : Int64) (x : Int32) (v0 v1 v2 v3 v4 : Value) : am_run d 19 56 [v0, v1, v2, v3, v4, .int x] st σ τ = am_run d 19 58 [v0, v1, v2, v3, v4, .int x] (.int x :: st) σ τ := rr_iload dX1_nearestLiving_56 rfl
theorem r19_58 (d : Nat) (st : List Value) (σ : am_St) (τ : Int64) (x : Int32) (v0 v1 v2 v4 v5 : Value) : am_run d 19 58 [v0, v1, v2, .int x, v4, v5] st σ τ = am_run d 19 59 [v0, v1, v2, .int x, v4, v5] (.int x :: st) σ τ := rr_iload_n dX1_nearestLiving_58 rfl
theorem r19_59 (d : Nat) (ls st : List Value) (σ : am_St) (τ : Int64) (x y : Int32) : am_run d 19 59 ls (.int y :: .int x :: st) σ τ = if y ≤ x then am_run d 19 68 ls st σ τ else am_run d 19 62 ls st σ τ := (rr_icmp 68 dX1_nearestLiving_59 (by decide)).trans am_sel
theorem r19_62 (d : Nat) (st : List Value) (σ : am_St) (τ : Int64) (x : Int32) (v0 v1 v2 v3 v5 : Value) : am_run d 19 62 [v0, v1, v2, v3, .int x, v5] st σ τ = am_run d 19 64 [v0, v1, v2, v3, .int x, v5] (.int x :: st) σ τ := rr_iload dX1_nearestLiving_62 rfl
theorem r19_64 (d : Nat) (st : List Value) (σ : am_St) (τ : Int64) (x : Int32) (v0 v1 v2 v3 v4 v5 : Value) : am_run d 19 64 [v0, v1, v2, v3, v4, v5] (.int x :: st) σ τ = am_run d 19 65 [v0, am_nl v1, .int x, v3, v4, v5] st σ τ := rr_istore_n _ dX1_nearestLiving_64 (by decide) (by first | rfl | (by_cases h : v1.category = 2 <;> simp [am_set1, am_nl, h]))
theorem r19_65 (d : Nat) (st : List Value) (σ : am_St) (τ : Int64) (x : Int32) (v0 v1 v2 v3 v4 : Value) : am_run d 19 65 [v0, v1, v2, v3, v4, .int x] st σ τ = am_run d 19 67 [v0, v1, v2, v3, v4, .int x] (.int x :: st) σ τ := rr_iload dX1_nearestLiving_65 rfl
theorem r19_67 (d : Nat) (st : List Value) (σ : am_St) (τ : Int64) (x : Int32) (v0 v1 v2 v3 v4 v5 : Value) : am_run d 19 67 [v0, v1, v2, v3, v4, v5] (.int x :: st) σ τ = am_run d 19 68 [v0, v1, am_nl v2, .int x, v4, v5] st σ τ := rr_istore_n _ dX1_nearestLiving_67 (by decide) (by first | rfl | (by_cases h : v2.category = 2 <;> simp [am_set1, am_nl, h]))
theorem r19_68 (d : Nat) (st : List Value) (σ : am_St) (τ : Int64) (x : Int32) (v0 v1 v2 v3 v5 : Value) : am_run d 19 68 [v0, v1, v2, v3, .int x, v5] st σ τ = am_run d 19 71 [v0, v1, v2, am_nl v3, .int (x + 1), v5] st σ τ := rr_iinc 1 _ dX1_nearestLiving_68 rfl (by decide) (by decide) (by first | rfl | (by_cases h : v3.category = 2 <;> simp [am_set1, am_nl, h]))
theorem r19_71 (d : Nat) (ls st : List Value) (σ : am_St) (τ : Int64) : am_run d 19 71 ls st σ τ = am_run d 19 7 ls st σ τ := rr_goto 7 dX1_nearestLiving_71 (by decide)
theorem r19_74 (d : Nat) (st : List Value) (σ : am_St) (τ : Int64) (x : Int32) (v0 v1 v3 v4 v5 : Value) : am_run d 19 74 [v0, v1, .int x, v3, v4, v5] st σ τ = am_run d 19 75 [v0, v1, .int x, v3, v4, v5] (.int x :: st) σ τ := rr_iload_n dX1_nearestLiving_74 rfl
theorem r19_75 (d : Nat) (ls : List Value) (σ : am_St) (τ : Int64) (x : Int32) : am_run d 19 75 ls [.int x] σ τ = some (some (.int x), σ, τ) := rr_iret dX1_nearestLiving_75 rfl
theorem dX3_keep_0 : decode (am_code 24) 0 = .ok (.aload_n 0, 1) := by decide +kernel
theorem dX3_keep_1 : decode (am_code 24) 1 = .ok (.iconst 1, 1) := by decide +kernel
theorem dX3_keep_2 : decode (am_code 24) 2 = .ok (.putfield 22, 3) := by decide +kernel
theorem dX3_keep_5 : decode (am_code 24) 5 = .ok (.aload_n 0, 1) := by decide +kernel
theorem dX3_keep_6 : decode (am_code 24) 6 = .ok (.aload_n 1, 1) := by decide +kernel
theorem dX3_keep_7 : decode (am_code 24) 7 = .ok (.getfield 26, 3) := by decide +kernel
theorem dX3_keep_10 : decode (am_code 24) 10 = .ok (.putfield 32, 3) := by decide +kernel
theorem dX3_keep_13 : decode (am_code 24) 13 = .ok (.iconst 0, 1) := by decide +kernel
theorem dX3_keep_14 : decode (am_code 24) 14 = .ok (.istore_n 2, 1) := by decide +kernel
theorem dX3_keep_15 : decode (am_code 24) 15 = .ok (.iload_n 2, 1) := by decide +kernel
theorem dX3_keep_16 : decode (am_code 24) 16 = .ok (.aload_n 0, 1) := by decide +kernel
theorem dX3_keep_17 : decode (am_code 24) 17 = .ok (.getfield 32, 3) := by decide +kernel
theorem dX3_keep_20 : decode (am_code 24) 20 = .ok (.if_icmp .ge 45, 3) := by decide +kernel
theorem dX3_keep_23 : decode (am_code 24) 23 = .ok (.aload_n 0, 1) := by decide +kernel
theorem dX3_keep_24 : decode (am_code 24) 24 = .ok (.getfield 9, 3) := by decide +kernel
theorem dX3_keep_27 : decode (am_code 24) 27 = .ok (.iload_n 2, 1) := by decide +kernel
theorem dX3_keep_28 : decode (am_code 24) 28 = .ok (.aload_n 1, 1) := by decide +kernel
theorem dX3_keep_29 : decode (am_code 24) 29 = .ok (.getfield 33, 3) := by decide +kernel
theorem dX3_keep_32 : decode (am_code 24) 32 = .ok (.iload_n 2, 1) := by decide +kernel
theorem dX3_keep_33 : decode (am_code 24) 33 = .ok (.iaload, 1) := by decide +kernel
theorem dX3_keep_34 : decode (am_code 24) 34 = .ok (.iastore, 1) := by decide +kernel
theorem dX3_keep_35 : decode (am_code 24) 35 = .ok (.aload_n 0, 1) := by decide +kernel
theorem dX3_keep_36 : decode (am_code 24) 36 = .ok (.getfield 15, 3) := by decide +kernel
theorem dX3_keep_39 : decode (am_code 24) 39 = .ok (.iload_n 2, 1) := by decide +kernel
theorem dX3_keep_40 : decode (am_code 24) 40 = .ok (.aload_n 1, 1) := by decide +kernel
theorem dX3_keep_41 : decode (am_code 24) 41 = .ok (.getfield 34, 3) := by decide +kernel
theorem dX3_keep_44 : decode (am_code 24) 44 = .ok (.iload_n 2, 1) := by decide +kernel
theorem dX3_keep_45 : decode (am_code 24) 45 = .ok (.iaload, 1) := by decide +kernel
theorem dX3_keep_46 : decode (am_code 24) 46 = .ok (.iastore, 1) := by decide +kernel
theorem dX3_keep_47 : decode (am_code 24) 47 = .ok (.aload_n 0, 1) := by decide +kernel
theorem dX3_keep_48 : decode (am_code 24) 48 = .ok (.getfield 18, 3) := by decide +kernel
theorem dX3_keep_51 : decode (am_code 24) 51 = .ok (.iload_n 2, 1) := by decide +kernel
theorem dX3_keep_52 : decode (am_code 24) 52 = .ok (.aload_n 1, 1) := by decide +kernel
theorem dX3_keep_53 : decode (am_code 24) 53 = .ok (.getfield 35, 3) := by decide +kernel
theorem dX3_keep_56 : decode (am_code 24) 56 = .ok (.iload_n 2, 1) := by decide +kernel
theorem dX3_keep_57 : decode (am_code 24) 57 = .ok (.baload, 1) := by decide +kernel
theorem dX3_keep_58 : decode (am_code 24) 58 = .ok (.bastore, 1) := by decide +kernel
theorem dX3_keep_59 : decode (am_code 24) 59 = .ok (.iinc 2 1, 3) := by decide +kernel
theorem dX3_keep_62 : decode (am_code 24) 62 = .ok (.goto (-47), 3) := by decide +kernel
theorem dX3_keep_65 : decode (am_code 24) 65 = .ok (.return_, 1) := by decide +kernel
theorem r24_0 (d : Nat) (st : List Value) (σ : am_St) (τ : Int64) (x : Nat) (v1 v2 : Value) : am_run d 24 0 [.ref x, v1, v2] st σ τ = am_run d 24 1 [.ref x, v1, v2] (.ref x :: st) σ τ := rr_aload_n dX3_keep_0 rfl
theorem r24_1 (d : Nat) (ls st : List Value) (σ : am_St) (τ : Int64) : am_run d 24 1 ls st σ τ = am_run d 24 2 ls (.int 1 :: st) σ τ := rr_iconst 1 dX3_keep_1 (by decide)
theorem r24_2 (d : Nat) (ls st : List Value) (σ : am_St) (τ : Int64) (k : Nat) (x : Int32) : am_run d 24 2 ls (.int x :: .ref k :: st) σ τ = am_pf k 3 0 x σ (fun σ => am_run d 24 5 ls st σ τ) := rr_putf dX3_keep_2 (by decide +kernel)
theorem r24_5 (d : Nat) (st : List Value) (σ : am_St) (τ : Int64) (x : Nat) (v1 v2 : Value) : am_run d 24 5 [.ref x, v1, v2] st σ τ = am_run d 24 6 [.ref x, v1, v2] (.ref x :: st) σ τ := rr_aload_n dX3_keep_5 rfl
theorem r24_6 (d : Nat) (st : List Value) (σ : am_St) (τ : Int64) (x : Nat) (v0 v2 : Value) : am_run d 24 6 [v0, .ref x, v2] st σ τ = am_run d 24 7 [v0, .ref x, v2] (.ref x :: st) σ τ := rr_aload_n dX3_keep_6 rfl
theorem r24_7 (d : Nat) (ls st : List Value) (σ : am_St) (τ : Int64) (k : Nat) : am_run d 24 7 ls (.ref k :: st) σ τ = am_gf k 1 0 σ τ (fun v => am_run d 24 10 ls (v :: st) σ τ) := rr_getf dX3_keep_7 (by decide +kernel)
theorem r24_10 (d : Nat) (ls st : List Value) (σ : am_St) (τ : Int64) (k : Nat) (x : Int32) : am_run d 24 10 ls (.int x :: .ref k :: st) σ τ = am_pf k 3 1 x σ (fun σ => am_run d 24 13 ls st σ τ) := rr_putf dX3_keep_10 (by decide +kernel)
theorem r24_13 (d : Nat) (ls st : List Value) (σ : am_St) (τ : Int64) : am_run d 24 13 ls st σ τ = am_run d 24 14 ls (.int 0 :: st) σ τ := rr_iconst 0 dX3_keep_13 (by decide)
theorem r24_14 (d : Nat) (st : List Value) (σ : am_St) (τ : Int64) (x : Int32) (v0 v1 v2 : Value) : am_run d 24 14 [v0, v1, v2] (.int x :: st) σ τ = am_run d 24 15 [v0, am_nl v1, .int x] st σ τ := rr_istore_n _ dX3_keep_14 (by decide) (by first | rfl | (by_cases h : v1.category = 2 <;> simp [am_set1, am_nl, h]))
theorem r24_15 (d : Nat) (st : List Value) (σ : am_St) (τ : Int64) (x : Int32) (v0 v1 : Value) : am_run d 24 15 [v0, v1, .int x] st σ τ = am_run d 24 16 [v0, v1, .int x] (.int x :: st) σ τ := rr_iload_n dX3_keep_15 rfl
theorem r24_16 (d : Nat) (st : List Value) (σ : am_St) (τ : Int64) (x : Nat) (v1 v2 : Value) : am_run d 24 16 [.ref x, v1, v2] st σ τ = am_run d 24 17 [.ref x, v1, v2] (.ref x :: st) σ τ := rr_aload_n dX3_keep_16 rfl
theorem r24_17 (d : Nat) (ls st : List Value) (σ : am_St) (τ : Int64) (k : Nat) : am_run d 24 17 ls (.ref k :: st) σ τ = am_gf k 3 1 σ τ (fun v => am_run d 24 20 ls (v :: st) σ τ) := rr_getf dX3_keep_17 (by decide +kernel)
theorem r24_20 (d : Nat) (ls st : List Value) (σ : am_St) (τ : Int64) (x y : Int32) : am_run d 24 20 ls (.int y :: .int x :: st) σ τ = if y ≤ x then am_run d 24 65 ls st σ τ else am_run d 24 23 ls st σ τ := (rr_icmp 65 dX3_keep_20 (by decide)).trans am_sel
theorem r24_23 (d : Nat) (st : List Value) (σ : am_St) (τ : Int64) (x : Nat) (v1 v2 : Value) : am_run d 24 23 [.ref x, v1, v2] st σ τ = am_run d 24 24 [.ref x, v1, v2] (.ref x :: st) σ τ := rr_aload_n dX3_keep_23 rfl
theorem r24_24 (d : Nat) (ls st : List Value) (σ : am_St) (τ : Int64) (k : Nat) : am_run d 24 24 ls (.ref k :: st) σ τ = am_gf k 3 2 σ τ (fun v => am_run d 24 27 ls (v :: st) σ τ) := rr_getf dX3_keep_24 (by decide +kernel)
theorem r24_27 (d : Nat) (st : List Value) (σ : am_St) (τ : Int64) (x : Int32) (v0 v1 : Value) : am_run d 24 27 [v0, v1, .int x] st σ τ = am_run d 24 28 [v0, v1, .int x] (.int x :: st) σ τ := rr_iload_n dX3_keep_27 rfl
theorem r24_28 (d : Nat) (st : List Value) (σ : am_St) (τ : Int64) (x : Nat) (v0 v2 : Value) : am_run d 24 28 [v0, .ref x, v2] st σ τ = am_run d 24 29 [v0, .ref x, v2] (.ref x :: st) σ τ := rr_aload_n dX3_keep_28 rfl
theorem r24_29 (d : Nat) (ls st : List Value) (σ : am_St) (τ : Int64) (k : Nat) : am_run d 24 29 ls (.ref k :: st) σ τ = am_gf k 1 7 σ τ (fun v => am_run d 24 32 ls (v :: st) σ τ) := rr_getf dX3_keep_29 (by decide +kernel)
theorem r24_32 (d : Nat) (st : List Value) (σ : am_St) (τ : Int64) (x : Int32) (v0 v1 : Value) : am_run d 24 32 [v0, v1, .int x] st σ τ = am_run d 24 33 [v0, v1, .int x] (.int x :: st) σ τ := rr_iload_n dX3_keep_32 rfl
theorem r24_33 (d : Nat) (ls st : List Value) (σ : am_St) (τ : Int64) (i : Int32) (k : Nat) : am_run d 24 33 ls (.int i :: .ref k :: st) σ τ = am_ai false k i (fun j => am_run d 24 34 ls (.int (σ k j) :: st) σ τ) := rr_iald dX3_keep_33
theorem r24_34 (d : Nat) (ls st : List Value) (σ : am_St) (τ : Int64) (x i : Int32) (k : Nat) : am_run d 24 34 ls (.int x :: .int i :: .ref k :: st) σ τ = am_ai false k i (fun j => am_run d 24 35 ls st (am_up σ k j x) τ) := rr_iast dX3_keep_34
theorem r24_35 (d : Nat) (st : List Value) (σ : am_St) (τ : Int64) (x : Nat) (v1 v2 : Value) : am_run d 24 35 [.ref x, v1, v2] st σ τ = am_run d 24 36 [.ref x, v1, v2] (.ref x :: st) σ τ := rr_aload_n dX3_keep_35 rfl
theorem r24_36 (d : Nat) (ls st : List Value) (σ : am_St) (τ : Int64) (k : Nat) : am_run d 24 36 ls (.ref k :: st) σ τ = am_gf k 3 3 σ τ (fun v => am_run d 24 39 ls (v :: st) σ τ) := rr_getf dX3_keep_36 (by decide +kernel)
theorem r24_39 (d : Nat) (st : List Value) (σ : am_St) (τ : Int64) (x : Int32) (v0 v1 : Value) : am_run d 24 39 [v0, v1, .int x] st σ τ = am_run d 24 40 [v0, v1, .int x] (.int x :: st) σ τ := rr_iload_n dX3_keep_39 rfl
theorem r24_40 (d : Nat) (st : List Value) (σ : am_St) (τ : Int64) (x : Nat) (v0 v2 : Value) : am_run d 24 40 [v0, .ref x, v2] st σ τ = am_run d 24 41 [v0, .ref x, v2] (.ref x :: st) σ τ := rr_aload_n dX3_keep_40 rfl
theorem r24_41 (d : Nat) (ls st : List Value) (σ : am_St) (τ : Int64) (k : Nat) : am_run d 24 41 ls (.ref k :: st) σ τ = am_gf k 1 8 σ τ (fun v => am_run d 24 44 ls (v :: st) σ τ) := rr_getf dX3_keep_41 (by decide +kernel)
theorem r24_44 (d : Nat) (st : List Value) (σ : am_St) (τ : Int64) (x : Int32) (v0 v1 : Value) : am_run d 24 44 [v0, v1, .int x] st σ τ = am_run d 24 45 [v0, v1, .int x] (.int x :: st) σ τ := rr_iload_n dX3_keep_44 rfl
theorem r24_45 (d : Nat) (ls st : List Value) (σ : am_St) (τ : Int64) (i : Int32) (k : Nat) : am_run d 24 45 ls (.int i :: .ref k :: st) σ τ = am_ai false k i (fun j => am_run d 24 46 ls (.int (σ k j) :: st) σ τ) := rr_iald dX3_keep_45
theorem r24_46 (d : Nat) (ls st : List Value) (σ : am_St) (τ : Int64) (x i : Int32) (k : Nat) : am_run d 24 46 ls (.int x :: .int i :: .ref k :: st) σ τ = am_ai false k i (fun j => am_run d 24 47 ls st (am_up σ k j x) τ) := rr_iast dX3_keep_46
theorem r24_47 (d : Nat) (st : List Value) (σ : am_St) (τ : Int64) (x : Nat) (v1 v2 : Value) : am_run d 24 47 [.ref x, v1, v2] st σ τ = am_run d 24 48 [.ref x, v1, v2] (.ref x :: st) σ τ := rr_aload_n dX3_keep_47 rfl
theorem r24_48 (d : Nat) (ls st : List Value) (σ : am_St) (τ : Int64) (k : Nat) : am_run d 24 48 ls (.ref k :: st) σ τ = am_gf k 3 4 σ τ (fun v => am_run d 24 51 ls (v :: st) σ τ) := rr_getf dX3_keep_48 (by decide +kernel)
theorem r24_51 (d : Nat) (st : List Value) (σ : am_St) (τ : Int64) (x : Int32) (v0 v1 : Value) : am_run d 24 51 [v0, v1, .int x] st σ τ = am_run d 24 52 [v0, v1, .int x] (.int x :: st) σ τ := rr_iload_n dX3_keep_51 rfl
theorem r24_52 (d : Nat) (st : List Value) (σ : am_St) (τ : Int64) (x : Nat) (v0 v2 : Value) : am_run d 24 52 [v0, .ref x, v2] st σ τ = am_run d 24 53 [v0, .ref x, v2] (.ref x :: st) σ τ := rr_aload_n dX3_keep_52 rfl
theorem r24_53 (d : Nat) (ls st : List Value) (σ : am_St) (τ : Int64) (k : Nat) : am_run d 24 53 ls (.ref k :: st) σ τ = am_gf k 1 9 σ τ (fun v => am_run d 24 56 ls (v :: st) σ τ) := rr_getf dX3_keep_53 (by decide +kernel)
theorem r24_56 (d : Nat) (st : List Value) (σ : am_St) (τ : Int64) (x : Int32) (v0 v1 : Value) : am_run d 24 56 [v0, v1, .int x] st σ τ = am_run d 24 57 [v0, v1, .int x] (.int x :: st) σ τ := rr_iload_n dX3_keep_56 rfl
theorem r24_57 (d : Nat) (ls st : List Value) (σ : am_St) (τ : Int64) (i : Int32) (k : Nat) : am_run d 24 57 ls (.int i :: .ref k :: st) σ τ = am_ai true k i (fun j => am_run d 24 58 ls (.int (σ k j) :: st) σ τ) := rr_bald dX3_keep_57
theorem r24_58 (d : Nat) (ls st : List Value) (σ : am_St) (τ : Int64) (x i : Int32) (k : Nat) : am_run d 24 58 ls (.int x :: .int i :: .ref k :: st) σ τ = am_ai true k i (fun j => am_run d 24 59 ls st (am_up σ k j (vp_nar .boolean x)) τ) := rr_bast dX3_keep_58
theorem r24_59 (d : Nat) (st : List Value) (σ : am_St) (τ : Int64) (x : Int32) (v0 v1 : Value) : am_run d 24 59 [v0, v1, .int x] st σ τ = am_run d 24 62 [v0, am_nl v1, .int (x + 1)] st σ τ := rr_iinc 1 _ dX3_keep_59 rfl (by decide) (by decide) (by first | rfl | (by_cases h : v1.category = 2 <;> simp [am_set1, am_nl, h]))
theorem r24_62 (d : Nat) (ls st : List Value) (σ : am_St) (τ : Int64) : am_run d 24 62 ls st σ τ = am_run d 24 15 ls st σ τ := rr_goto 15 dX3_keep_62 (by decide)
theorem r24_65 (d : Nat) (ls : List Value) (σ : am_St) (τ : Int64) : am_run d 24 65 ls [] σ τ = some (none, σ, τ) := rr_vret dX3_keep_65 rfl
theorem dX3_giveBack_0 : decode (am_code 25) 0 = .ok (.aload_n 1, 1) := by decide +kernel
theorem dX3_giveBack_1 : decode (am_code 25) 1 = .ok (.aload_n 0, 1) := by decide +kernel
theorem dX3_giveBack_2 : decode (am_code 25) 2 = .ok (.getfield 32, 3) := by decide +kernel
theorem dX3_giveBack_5 : decode (am_code 25) 5 = .ok (.putfield 26, 3) := by decide +kernel
theorem dX3_giveBack_8 : decode (am_code 25) 8 = .ok (.iconst 0, 1) := by decide +kernel
theorem dX3_giveBack_9 : decode (am_code 25) 9 = .ok (.istore_n 2, 1) := by decide +kernel
theorem dX3_giveBack_10 : decode (am_code 25) 10 = .ok (.iload_n 2, 1) := by decide +kernel
theorem dX3_giveBack_11 : decode (am_code 25) 11 = .ok (.aload_n 0, 1) := by decide +kernel
theorem dX3_giveBack_12 : decode (am_code 25) 12 = .ok (.getfield 32, 3) := by decide +kernel
theorem dX3_giveBack_15 : decode (am_code 25) 15 = .ok (.if_icmp .ge 45, 3) := by decide +kernel
theorem dX3_giveBack_18 : decode (am_code 25) 18 = .ok (.aload_n 1, 1) := by decide +kernel
theorem dX3_giveBack_19 : decode (am_code 25) 19 = .ok (.getfield 33, 3) := by decide +kernel
theorem dX3_giveBack_22 : decode (am_code 25) 22 = .ok (.iload_n 2, 1) := by decide +kernel
theorem dX3_giveBack_23 : decode (am_code 25) 23 = .ok (.aload_n 0, 1) := by decide +kernel
theorem dX3_giveBack_24 : decode (am_code 25) 24 = .ok (.getfield 9, 3) := by decide +kernel
theorem dX3_giveBack_27 : decode (am_code 25) 27 = .ok (.iload_n 2, 1) := by decide +kernel
theorem dX3_giveBack_28 : decode (am_code 25) 28 = .ok (.iaload, 1) := by decide +kernel
theorem dX3_giveBack_29 : decode (am_code 25) 29 = .ok (.iastore, 1) := by decide +kernel
theorem dX3_giveBack_30 : decode (am_code 25) 30 = .ok (.aload_n 1, 1) := by decide +kernel
theorem dX3_giveBack_31 : decode (am_code 25) 31 = .ok (.getfield 34, 3) := by decide +kernel
theorem dX3_giveBack_34 : decode (am_code 25) 34 = .ok (.iload_n 2, 1) := by decide +kernel
theorem dX3_giveBack_35 : decode (am_code 25) 35 = .ok (.aload_n 0, 1) := by decide +kernel
theorem dX3_giveBack_36 : decode (am_code 25) 36 = .ok (.getfield 15, 3) := by decide +kernel
theorem dX3_giveBack_39 : decode (am_code 25) 39 = .ok (.iload_n 2, 1) := by decide +kernel
theorem dX3_giveBack_40 : decode (am_code 25) 40 = .ok (.iaload, 1) := by decide +kernel
theorem dX3_giveBack_41 : decode (am_code 25) 41 = .ok (.iastore, 1) := by decide +kernel
theorem dX3_giveBack_42 : decode (am_code 25) 42 = .ok (.aload_n 1, 1) := by decide +kernel
theorem dX3_giveBack_43 : decode (am_code 25) 43 = .ok (.getfield 35, 3) := by decide +kernel
theorem dX3_giveBack_46 : decode (am_code 25) 46 = .ok (.iload_n 2, 1) := by decide +kernel
theorem dX3_giveBack_47 : decode (am_code 25) 47 = .ok (.aload_n 0, 1) := by decide +kernel
theorem dX3_giveBack_48 : decode (am_code 25) 48 = .ok (.getfield 18, 3) := by decide +kernel
theorem dX3_giveBack_51 : decode (am_code 25) 51 = .ok (.iload_n 2, 1) := by decide +kernel
theorem dX3_giveBack_52 : decode (am_code 25) 52 = .ok (.baload, 1) := by decide +kernel
theorem dX3_giveBack_53 : decode (am_code 25) 53 = .ok (.bastore, 1) := by decide +kernel
theorem dX3_giveBack_54 : decode (am_code 25) 54 = .ok (.iinc 2 1, 3) := by decide +kernel
theorem dX3_giveBack_57 : decode (am_code 25) 57 = .ok (.goto (-47), 3) := by decide +kernel
theorem dX3_giveBack_60 : decode (am_code 25) 60 = .ok (.return_, 1) := by decide +kernel
theorem r25_0 (d : Nat) (st : List Value) (σ : am_St) (τ : Int64) (x : Nat) (v0 v2 : Value) : am_run d 25 0 [v0, .ref x, v2] st σ τ = am_run d 25 1 [v0, .ref x, v2] (.ref x :: st) σ τ := rr_aload_n dX3_giveBack_0 rfl
theorem r25_1 (d : Nat) (st : List Value) (σ : am_St) (τ : Int64) (x : Nat) (v1 v2 : Value) : am_run d 25 1 [.ref x, v1, v2] st σ τ = am_run d 25 2 [.ref x, v1, v2] (.ref x :: st) σ τ := rr_aload_n dX3_giveBack_1 rfl
theorem r25_2 (d : Nat) (ls st : List Value) (σ : am_St) (τ : Int64) (k : Nat) : am_run d 25 2 ls (.ref k :: st) σ τ = am_gf k 3 1 σ τ (fun v => am_run d 25 5 ls (v :: st) σ τ) := rr_getf dX3_giveBack_2 (by decide +kernel)
theorem r25_5 (d : Nat) (ls st : List Value) (σ : am_St) (τ : Int64) (k : Nat) (x : Int32) : am_run d 25 5 ls (.int x :: .ref k :: st) σ τ = am_pf k 1 0 x σ (fun σ => am_run d 25 8 ls st σ τ) := rr_putf dX3_giveBack_5 (by decide +kernel)
theorem r25_8 (d : Nat) (ls st : List Value) (σ : am_St) (τ : Int64) : am_run d 25 8 ls st σ τ = am_run d 25 9 ls (.int 0 :: st) σ τ := rr_iconst 0 dX3_giveBack_8 (by decide)
theorem r25_9 (d : Nat) (st : List Value) (σ : am_St) (τ : Int64) (x : Int32) (v0 v1 v2 : Value) : am_run d 25 9 [v0, v1, v2] (.int x :: st) σ τ = am_run d 25 10 [v0, am_nl v1, .int x] st σ τ := rr_istore_n _ dX3_giveBack_9 (by decide) (by first | rfl | (by_cases h : v1.category = 2 <;> simp [am_set1, am_nl, h]))
theorem r25_10 (d : Nat) (st : List Value) (σ : am_St) (τ : Int64) (x : Int32) (v0 v1 : Value) : am_run d 25 10 [v0, v1, .int x] st σ τ = am_run d 25 11 [v0, v1, .int x] (.int x :: st) σ τ := rr_iload_n dX3_giveBack_10 rfl
theorem r25_11 (d : Nat) (st : List Value) (σ : am_St) (τ : Int64) (x : Nat) (v1 v2 : Value) : am_run d 25 11 [.ref x, v1, v2] st σ τ = am_run d 25 12 [.ref x, v1, v2] (.ref x :: st) σ τ := rr_aload_n dX3_giveBack_11 rfl
theorem r25_12 (d : Nat) (ls st : List Value) (σ : am_St) (τ : Int64) (k : Nat) : am_run d 25 12 ls (.ref k :: st) σ τ = am_gf k 3 1 σ τ (fun v => am_run d 25 15 ls (v :: st) σ τ) := rr_getf dX3_giveBack_12 (by decide +kernel)
theorem r25_15 (d : Nat) (ls st : List Value) (σ : am_St) (τ : Int64) (x y : Int32) : am_run d 25 15 ls (.int y :: .int x :: st) σ τ = if y ≤ x then am_run d 25 60 ls st σ τ else am_run d 25 18 ls st σ τ := (rr_icmp 60 dX3_giveBack_15 (by decide)).trans am_sel
theorem r25_18 (d : Nat) (st : List Value) (σ : am_St) (τ : Int64) (x : Nat) (v0 v2 : Value) : am_run d 25 18 [v0, .ref x, v2] st σ τ = am_run d 25 19 [v0, .ref x, v2] (.ref x :: st) σ τ := rr_aload_n dX3_giveBack_18 rfl
theorem r25_19 (d : Nat) (ls st : List Value) (σ : am_St) (τ : Int64) (k : Nat) : am_run d 25 19 ls (.ref k :: st) σ τ = am_gf k 1 7 σ τ (fun v => am_run d 25 22 ls (v :: st) σ τ) := rr_getf dX3_giveBack_19 (by decide +kernel)
theorem r25_22 (d : Nat) (st : List Value) (σ : am_St) (τ : Int64) (x : Int32) (v0 v1 : Value) : am_run d 25 22 [v0, v1, .int x] st σ τ = am_run d 25 23 [v0, v1, .int x] (.int x :: st) σ τ := rr_iload_n dX3_giveBack_22 rfl
theorem r25_23 (d : Nat) (st : List Value) (σ : am_St) (τ : Int64) (x : Nat) (v1 v2 : Value) : am_run d 25 23 [.ref x, v1, v2] st σ τ = am_run d 25 24 [.ref x, v1, v2] (.ref x :: st) σ τ := rr_aload_n dX3_giveBack_23 rfl
theorem r25_24 (d : Nat) (ls st : List Value) (σ : am_St) (τ : Int64) (k : Nat) : am_run d 25 24 ls (.ref k :: st) σ τ = am_gf k 3 2 σ τ (fun v => am_run d 25 27 ls (v :: st) σ τ) := rr_getf dX3_giveBack_24 (by decide +kernel)
theorem r25_27 (d : Nat) (st : List Value) (σ : am_St) (τ : Int64) (x : Int32) (v0 v1 : Value) : am_run d 25 27 [v0, v1, .int x] st σ τ = am_run d 25 28 [v0, v1, .int x] (.int x :: st) σ τ := rr_iload_n dX3_giveBack_27 rfl
theorem r25_28 (d : Nat) (ls st : List Value) (σ : am_St) (τ : Int64) (i : Int32) (k : Nat) : am_run d 25 28 ls (.int i :: .ref k :: st) σ τ = am_ai false k i (fun j => am_run d 25 29 ls (.int (σ k j) :: st) σ τ) := rr_iald dX3_giveBack_28
theorem r25_29 (d : Nat) (ls st : List Value) (σ : am_St) (τ : Int64) (x i : Int32) (k : Nat) : am_run d 25 29 ls (.int x :: .int i :: .ref k :: st) σ τ = am_ai false k i (fun j => am_run d 25 30 ls st (am_up σ k j x) τ) := rr_iast dX3_giveBack_29
theorem r25_30 (d : Nat) (st : List Value) (σ : am_St) (τ : Int64) (x : Nat) (v0 v2 : Value) : am_run d 25 30 [v0, .ref x, v2] st σ τ = am_run d 25 31 [v0, .ref x, v2] (.ref x :: st) σ τ := rr_aload_n dX3_giveBack_30 rfl
theorem r25_31 (d : Nat) (ls st : List Value) (σ : am_St) (τ : Int64) (k : Nat) : am_run d 25 31 ls (.ref k :: st) σ τ = am_gf k 1 8 σ τ (fun v => am_run d 25 34 ls (v :: st) σ τ) := rr_getf dX3_giveBack_31 (by decide +kernel)
theorem r25_34 (d : Nat) (st : List Value) (σ : am_St) (τ : Int64) (x : Int32) (v0 v1 : Value) : am_run d 25 34 [v0, v1, .int x] st σ τ = am_run d 25 35 [v0, v1, .int x] (.int x :: st) σ τ := rr_iload_n dX3_giveBack_34 rfl
theorem r25_35 (d : Nat) (st : List Value) (σ : am_St) (τ : Int64) (x : Nat) (v1 v2 : Value) : am_run d 25 35 [.ref x, v1, v2] st σ τ = am_run d 25 36 [.ref x, v1, v2] (.ref x :: st) σ τ := rr_aload_n dX3_giveBack_35 rfl
theorem r25_36 (d : Nat) (ls st : List Value) (σ : am_St) (τ : Int64) (k : Nat) : am_run d 25 36 ls (.ref k :: st) σ τ = am_gf k 3 3 σ τ (fun v => am_run d 25 39 ls (v :: st) σ τ) := rr_getf dX3_giveBack_36 (by decide +kernel)
theorem r25_39 (d : Nat) (st : List Value) (σ : am_St) (τ : Int64) (x : Int32) (v0 v1 : Value) : am_run d 25 39 [v0, v1, .int x] st σ τ = am_run d 25 40 [v0, v1, .int x] (.int x :: st) σ τ := rr_iload_n dX3_giveBack_39 rfl
theorem r25_40 (d : Nat) (ls st : List Value) (σ : am_St) (τ : Int64) (i : Int32) (k : Nat) : am_run d 25 40 ls (.int i :: .ref k :: st) σ τ = am_ai false k i (fun j => am_run d 25 41 ls (.int (σ k j) :: st) σ τ) := rr_iald dX3_giveBack_40
theorem r25_41 (d : Nat) (ls st : List Value) (σ : am_St) (τ : Int64) (x i : Int32) (k : Nat) : am_run d 25 41 ls (.int x :: .int i :: .ref k :: st) σ τ = am_ai false k i (fun j => am_run d 25 42 ls st (am_up σ k j x) τ) := rr_iast dX3_giveBack_41
theorem r25_42 (d : Nat) (st : List Value) (σ : am_St) (τ : Int64) (x : Nat) (v0 v2 : Value) : am_run d 25 42 [v0, .ref x, v2] st σ τ = am_run d 25 43 [v0, .ref x, v2] (.ref x :: st) σ τ := rr_aload_n dX3_giveBack_42 rfl
theorem r25_43 (d : Nat) (ls st : List Value) (σ : am_St) (τ : Int64) (k : Nat) : am_run d 25 43 ls (.ref k :: st) σ τ = am_gf k 1 9 σ τ (fun v => am_run d 25 46 ls (v :: st) σ τ) := rr_getf dX3_giveBack_43 (by decide +kernel)
theorem r25_46 (d : Nat) (st : List Value) (σ : am_St) (τ : Int64) (x : Int32) (v0 v1 : Value) : am_run d 25 46 [v0, v1, .int x] st σ τ = am_run d 25 47 [v0, v1, .int x] (.int x :: st) σ τ := rr_iload_n dX3_giveBack_46 rfl
theorem r25_47 (d : Nat) (st : List Value) (σ : am_St) (τ : Int64) (x : Nat) (v1 v2 : Value) : am_run d 25 47 [.ref x, v1, v2] st σ τ = am_run d 25 48 [.ref x, v1, v2] (.ref x :: st) σ τ := rr_aload_n dX3_giveBack_47 rfl
theorem r25_48 (d : Nat) (ls st : List Value) (σ : am_St) (τ : Int64) (k : Nat) : am_run d 25 48 ls (.ref k :: st) σ τ = am_gf k 3 4 σ τ (fun v => am_run d 25 51 ls (v :: st) σ τ) := rr_getf dX3_giveBack_48 (by decide +kernel)
theorem r25_51 (d : Nat) (st : List Value) (σ : am_St) (τ : Int64) (x : Int32) (v0 v1 : Value) : am_run d 25 51 [v0, v1, .int x] st σ τ = am_run d 25 52 [v0, v1, .int x] (.int x :: st) σ τ := rr_iload_n dX3_giveBack_51 rfl
theorem r25_52 (d : Nat) (ls st : List Value) (σ : am_St) (τ : Int64) (i : Int32) (k : Nat) : am_run d 25 52 ls (.int i :: .ref k :: st) σ τ = am_ai true k i (fun j => am_run d 25 53 ls (.int (σ k j) :: st) σ τ) := rr_bald dX3_giveBack_52
theorem r25_53 (d : Nat) (ls st : List Value) (σ : am_St) (τ : Int64) (x i : Int32) (k : Nat) : am_run d 25 53 ls (.int x :: .int i :: .ref k :: st) σ τ = am_ai true k i (fun j => am_run d 25 54 ls st (am_up σ k j (vp_nar .boolean x)) τ) := rr_bast dX3_giveBack_53
theorem r25_54 (d : Nat) (st : List Value) (σ : am_St) (τ : Int64) (x : Int32) (v0 v1 : Value) : am_run d 25 54 [v0, v1, .int x] st σ τ = am_run d 25 57 [v0, am_nl v1, .int (x + 1)] st σ τ := rr_iinc 1 _ dX3_giveBack_54 rfl (by decide) (by decide) (by first | rfl | (by_cases h : v1.category = 2 <;> simp [am_set1, am_nl, h]))
theorem r25_57 (d : Nat) (ls st : List Value) (σ : am_St) (τ : Int64) : am_run d 25 57 ls st σ τ = am_run d 25 10 ls st σ τ := rr_goto 10 dX3_giveBack_57 (by decide)
theorem r25_60 (d : Nat) (ls : List Value) (σ : am_St) (τ : Int64) : am_run d 25 60 ls [] σ τ = some (none, σ, τ) := rr_vret dX3_giveBack_60 rfl
