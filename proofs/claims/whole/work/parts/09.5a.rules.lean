theorem dX10_in_0 : decode (am_code 82) 0 = .ok (.lload_n 0, 1) := by decide +kernel
theorem dX10_in_1 : decode (am_code 82) 1 = .ok (.lload_n 2, 1) := by decide +kernel
theorem dX10_in_2 : decode (am_code 82) 2 = .ok (.lcmp, 1) := by decide +kernel
theorem dX10_in_3 : decode (am_code 82) 3 = .ok (.ifCond .lt 14, 3) := by decide +kernel
theorem dX10_in_6 : decode (am_code 82) 6 = .ok (.lload_n 0, 1) := by decide +kernel
theorem dX10_in_7 : decode (am_code 82) 7 = .ok (.lload 4, 2) := by decide +kernel
theorem dX10_in_9 : decode (am_code 82) 9 = .ok (.lcmp, 1) := by decide +kernel
theorem dX10_in_10 : decode (am_code 82) 10 = .ok (.ifCond .gt 7, 3) := by decide +kernel
theorem dX10_in_13 : decode (am_code 82) 13 = .ok (.iconst 1, 1) := by decide +kernel
theorem dX10_in_14 : decode (am_code 82) 14 = .ok (.goto 4, 3) := by decide +kernel
theorem dX10_in_17 : decode (am_code 82) 17 = .ok (.iconst 0, 1) := by decide +kernel
theorem dX10_in_18 : decode (am_code 82) 18 = .ok (.ireturn, 1) := by decide +kernel
theorem r82_0 (d : Nat) (st : List Value) (σ : am_St) (τ : Int64) (x : Int64) (v1 v2 v3 v4 v5 : Value) : am_run d 82 0 [.long x, v1, v2, v3, v4, v5] st σ τ = am_run d 82 1 [.long x, v1, v2, v3, v4, v5] (.long x :: st) σ τ := rr_lload_n dX10_in_0 rfl
theorem r82_1 (d : Nat) (st : List Value) (σ : am_St) (τ : Int64) (x : Int64) (v0 v1 v3 v4 v5 : Value) : am_run d 82 1 [v0, v1, .long x, v3, v4, v5] st σ τ = am_run d 82 2 [v0, v1, .long x, v3, v4, v5] (.long x :: st) σ τ := rr_lload_n dX10_in_1 rfl
theorem r82_2 (d : Nat) (ls st : List Value) (σ : am_St) (τ : Int64) (x y : Int64) : am_run d 82 2 ls (.long y :: .long x :: st) σ τ = am_run d 82 3 ls (.int (lg_cmp x y) :: st) σ τ := rr_lcmp dX10_in_2
theorem r82_3 (d : Nat) (ls st : List Value) (σ : am_St) (τ : Int64) (x : Int32) : am_run d 82 3 ls (.int x :: st) σ τ = if x < 0 then am_run d 82 17 ls st σ τ else am_run d 82 6 ls st σ τ := (rr_if 17 dX10_in_3 (by decide)).trans am_sel
theorem r82_6 (d : Nat) (st : List Value) (σ : am_St) (τ : Int64) (x : Int64) (v1 v2 v3 v4 v5 : Value) : am_run d 82 6 [.long x, v1, v2, v3, v4, v5] st σ τ = am_run d 82 7 [.long x, v1, v2, v3, v4, v5] (.long x :: st) σ τ := rr_lload_n dX10_in_6 rfl
theorem r82_7 (d : Nat) (st : List Value) (σ : am_St) (τ : Int64) (x : Int64) (v0 v1 v2 v3 v5 : Value) : am_run d 82 7 [v0, v1, v2, v3, .long x, v5] st σ τ = am_run d 82 9 [v0, v1, v2, v3, .long x, v5] (.long x :: st) σ τ := rr_lload dX10_in_7 rfl
theorem r82_9 (d : Nat) (ls st : List Value) (σ : am_St) (τ : Int64) (x y : Int64) : am_run d 82 9 ls (.long y :: .long x :: st) σ τ = am_run d 82 10 ls (.int (lg_cmp x y) :: st) σ τ := rr_lcmp dX10_in_9
theorem r82_10 (d : Nat) (ls st : List Value) (σ : am_St) (τ : Int64) (x : Int32) : am_run d 82 10 ls (.int x :: st) σ τ = if 0 < x then am_run d 82 17 ls st σ τ else am_run d 82 13 ls st σ τ := (rr_if 17 dX10_in_10 (by decide)).trans am_sel
theorem r82_13 (d : Nat) (ls st : List Value) (σ : am_St) (τ : Int64) : am_run d 82 13 ls st σ τ = am_run d 82 14 ls (.int 1 :: st) σ τ := rr_iconst 1 dX10_in_13 (by decide)
theorem r82_14 (d : Nat) (ls st : List Value) (σ : am_St) (τ : Int64) : am_run d 82 14 ls st σ τ = am_run d 82 18 ls st σ τ := rr_goto 18 dX10_in_14 (by decide)
theorem r82_17 (d : Nat) (ls st : List Value) (σ : am_St) (τ : Int64) : am_run d 82 17 ls st σ τ = am_run d 82 18 ls (.int 0 :: st) σ τ := rr_iconst 0 dX10_in_17 (by decide)
theorem r82_18 (d : Nat) (ls : List Value) (σ : am_St) (τ : Int64) (x : Int32) (hx : x = 0 ∨ x = 1) : am_run d 82 18 ls [.int x] σ τ = some (some (.int x), σ, τ) := rr_zret dX10_in_18 rfl hx
theorem dX10_letters_0 : decode (am_code 83) 0 = .ok (.iconst 0, 1) := by decide +kernel
theorem dX10_letters_1 : decode (am_code 83) 1 = .ok (.istore_n 3, 1) := by decide +kernel
theorem dX10_letters_2 : decode (am_code 83) 2 = .ok (.iconst 1, 1) := by decide +kernel
theorem dX10_letters_3 : decode (am_code 83) 3 = .ok (.istore 4, 2) := by decide +kernel
theorem dX10_letters_5 : decode (am_code 83) 5 = .ok (.lload_n 1, 1) := by decide +kernel
theorem dX10_letters_6 : decode (am_code 83) 6 = .ok (.lstore 5, 2) := by decide +kernel
theorem dX10_letters_8 : decode (am_code 83) 8 = .ok (.iconst 0, 1) := by decide +kernel
theorem dX10_letters_9 : decode (am_code 83) 9 = .ok (.istore 7, 2) := by decide +kernel
theorem dX10_letters_11 : decode (am_code 83) 11 = .ok (.iload 7, 2) := by decide +kernel
theorem dX10_letters_13 : decode (am_code 83) 13 = .ok (.bipush 8, 2) := by decide +kernel
theorem dX10_letters_15 : decode (am_code 83) 15 = .ok (.if_icmp .ge 68, 3) := by decide +kernel
theorem dX10_letters_18 : decode (am_code 83) 18 = .ok (.lload 5, 2) := by decide +kernel
theorem dX10_letters_20 : decode (am_code 83) 20 = .ok (.ldc2_w 96, 3) := by decide +kernel
theorem dX10_letters_23 : decode (am_code 83) 23 = .ok (.land, 1) := by decide +kernel
theorem dX10_letters_24 : decode (am_code 83) 24 = .ok (.l2i, 1) := by decide +kernel
theorem dX10_letters_25 : decode (am_code 83) 25 = .ok (.istore 8, 2) := by decide +kernel
theorem dX10_letters_27 : decode (am_code 83) 27 = .ok (.lload 5, 2) := by decide +kernel
theorem dX10_letters_29 : decode (am_code 83) 29 = .ok (.bipush 8, 2) := by decide +kernel
theorem dX10_letters_31 : decode (am_code 83) 31 = .ok (.lushr, 1) := by decide +kernel
theorem dX10_letters_32 : decode (am_code 83) 32 = .ok (.lstore 5, 2) := by decide +kernel
theorem dX10_letters_34 : decode (am_code 83) 34 = .ok (.iload 4, 2) := by decide +kernel
theorem dX10_letters_36 : decode (am_code 83) 36 = .ok (.ifCond .eq 25, 3) := by decide +kernel
theorem dX10_letters_39 : decode (am_code 83) 39 = .ok (.iload 8, 2) := by decide +kernel
theorem dX10_letters_41 : decode (am_code 83) 41 = .ok (.bipush 126, 2) := by decide +kernel
theorem dX10_letters_43 : decode (am_code 83) 43 = .ok (.if_icmp .gt 18, 3) := by decide +kernel
theorem dX10_letters_46 : decode (am_code 83) 46 = .ok (.iload 8, 2) := by decide +kernel
theorem dX10_letters_48 : decode (am_code 83) 48 = .ok (.ifCond .eq 9, 3) := by decide +kernel
theorem dX10_letters_51 : decode (am_code 83) 51 = .ok (.iload_n 3, 1) := by decide +kernel
theorem dX10_letters_52 : decode (am_code 83) 52 = .ok (.iload 7, 2) := by decide +kernel
theorem dX10_letters_54 : decode (am_code 83) 54 = .ok (.if_icmp .ne 7, 3) := by decide +kernel
theorem dX10_letters_57 : decode (am_code 83) 57 = .ok (.iconst 1, 1) := by decide +kernel
theorem dX10_letters_58 : decode (am_code 83) 58 = .ok (.goto 4, 3) := by decide +kernel
theorem dX10_letters_61 : decode (am_code 83) 61 = .ok (.iconst 0, 1) := by decide +kernel
theorem dX10_letters_62 : decode (am_code 83) 62 = .ok (.istore 4, 2) := by decide +kernel
theorem dX10_letters_64 : decode (am_code 83) 64 = .ok (.iload_n 3, 1) := by decide +kernel
theorem dX10_letters_65 : decode (am_code 83) 65 = .ok (.iload 8, 2) := by decide +kernel
theorem dX10_letters_67 : decode (am_code 83) 67 = .ok (.ifCond .le 7, 3) := by decide +kernel
theorem dX10_letters_70 : decode (am_code 83) 70 = .ok (.iconst 1, 1) := by decide +kernel
theorem dX10_letters_71 : decode (am_code 83) 71 = .ok (.goto 4, 3) := by decide +kernel
theorem dX10_letters_74 : decode (am_code 83) 74 = .ok (.iconst 0, 1) := by decide +kernel
theorem dX10_letters_75 : decode (am_code 83) 75 = .ok (.iadd, 1) := by decide +kernel
theorem dX10_letters_76 : decode (am_code 83) 76 = .ok (.istore_n 3, 1) := by decide +kernel
theorem dX10_letters_77 : decode (am_code 83) 77 = .ok (.iinc 7 1, 3) := by decide +kernel
theorem dX10_letters_80 : decode (am_code 83) 80 = .ok (.goto (-69), 3) := by decide +kernel
theorem dX10_letters_83 : decode (am_code 83) 83 = .ok (.iload 4, 2) := by decide +kernel
theorem dX10_letters_85 : decode (am_code 83) 85 = .ok (.ifCond .ne 6, 3) := by decide +kernel
theorem dX10_letters_88 : decode (am_code 83) 88 = .ok (.bipush (-102), 2) := by decide +kernel
theorem dX10_letters_90 : decode (am_code 83) 90 = .ok (.ireturn, 1) := by decide +kernel
theorem dX10_letters_91 : decode (am_code 83) 91 = .ok (.aload_n 0, 1) := by decide +kernel
theorem dX10_letters_92 : decode (am_code 83) 92 = .ok (.getfield 98, 3) := by decide +kernel
theorem dX10_letters_95 : decode (am_code 83) 95 = .ok (.iload_n 3, 1) := by decide +kernel
theorem dX10_letters_96 : decode (am_code 83) 96 = .ok (.iadd, 1) := by decide +kernel
theorem dX10_letters_97 : decode (am_code 83) 97 = .ok (.bipush 16, 2) := by decide +kernel
theorem dX10_letters_99 : decode (am_code 83) 99 = .ok (.if_icmp .le 6, 3) := by decide +kernel
theorem dX10_letters_102 : decode (am_code 83) 102 = .ok (.bipush (-104), 2) := by decide +kernel
theorem dX10_letters_104 : decode (am_code 83) 104 = .ok (.ireturn, 1) := by decide +kernel
theorem dX10_letters_105 : decode (am_code 83) 105 = .ok (.iconst 0, 1) := by decide +kernel
theorem dX10_letters_106 : decode (am_code 83) 106 = .ok (.istore 7, 2) := by decide +kernel
theorem dX10_letters_108 : decode (am_code 83) 108 = .ok (.iload 7, 2) := by decide +kernel
theorem dX10_letters_110 : decode (am_code 83) 110 = .ok (.iload_n 3, 1) := by decide +kernel
theorem dX10_letters_111 : decode (am_code 83) 111 = .ok (.if_icmp .ge 40, 3) := by decide +kernel
theorem dX10_letters_114 : decode (am_code 83) 114 = .ok (.aload_n 0, 1) := by decide +kernel
theorem dX10_letters_115 : decode (am_code 83) 115 = .ok (.getfield 7, 3) := by decide +kernel
theorem dX10_letters_118 : decode (am_code 83) 118 = .ok (.aload_n 0, 1) := by decide +kernel
theorem dX10_letters_119 : decode (am_code 83) 119 = .ok (.getfield 98, 3) := by decide +kernel
theorem dX10_letters_122 : decode (am_code 83) 122 = .ok (.lload_n 1, 1) := by decide +kernel
theorem dX10_letters_123 : decode (am_code 83) 123 = .ok (.bipush 8, 2) := by decide +kernel
theorem dX10_letters_125 : decode (am_code 83) 125 = .ok (.iload 7, 2) := by decide +kernel
theorem dX10_letters_127 : decode (am_code 83) 127 = .ok (.imul, 1) := by decide +kernel
theorem dX10_letters_128 : decode (am_code 83) 128 = .ok (.lushr, 1) := by decide +kernel
theorem dX10_letters_129 : decode (am_code 83) 129 = .ok (.ldc2_w 96, 3) := by decide +kernel
theorem dX10_letters_132 : decode (am_code 83) 132 = .ok (.land, 1) := by decide +kernel
theorem dX10_letters_133 : decode (am_code 83) 133 = .ok (.l2i, 1) := by decide +kernel
theorem dX10_letters_134 : decode (am_code 83) 134 = .ok (.iastore, 1) := by decide +kernel
theorem dX10_letters_135 : decode (am_code 83) 135 = .ok (.aload_n 0, 1) := by decide +kernel
theorem dX10_letters_136 : decode (am_code 83) 136 = .ok (.dup, 1) := by decide +kernel
theorem dX10_letters_137 : decode (am_code 83) 137 = .ok (.getfield 98, 3) := by decide +kernel
theorem dX10_letters_140 : decode (am_code 83) 140 = .ok (.iconst 1, 1) := by decide +kernel
theorem dX10_letters_141 : decode (am_code 83) 141 = .ok (.iadd, 1) := by decide +kernel
theorem dX10_letters_142 : decode (am_code 83) 142 = .ok (.putfield 98, 3) := by decide +kernel
theorem dX10_letters_145 : decode (am_code 83) 145 = .ok (.iinc 7 1, 3) := by decide +kernel
theorem dX10_letters_148 : decode (am_code 83) 148 = .ok (.goto (-40), 3) := by decide +kernel
theorem dX10_letters_151 : decode (am_code 83) 151 = .ok (.aload_n 0, 1) := by decide +kernel
theorem dX10_letters_152 : decode (am_code 83) 152 = .ok (.getfield 98, 3) := by decide +kernel
theorem dX10_letters_155 : decode (am_code 83) 155 = .ok (.ireturn, 1) := by decide +kernel
theorem r83_0 (d : Nat) (ls st : List Value) (σ : am_St) (τ : Int64) : am_run d 83 0 ls st σ τ = am_run d 83 1 ls (.int 0 :: st) σ τ := rr_iconst 0 dX10_letters_0 (by decide)
theorem r83_1 (d : Nat) (st : List Value) (σ : am_St) (τ : Int64) (x : Int32) (v0 v1 v2 v3 v4 v5 v6 v7 v8 : Value) : am_run d 83 1 [v0, v1, v2, v3, v4, v5, v6, v7, v8] (.int x :: st) σ τ = am_run d 83 2 [v0, v1, am_nl v2, .int x, v4, v5, v6, v7, v8] st σ τ := rr_istore_n _ dX10_letters_1 (by decide) (by first | rfl | (by_cases h : v2.category = 2 <;> simp [am_set1, am_nl, h]))
theorem r83_2 (d : Nat) (ls st : List Value) (σ : am_St) (τ : Int64) : am_run d 83 2 ls st σ τ = am_run d 83 3 ls (.int 1 :: st) σ τ := rr_iconst 1 dX10_letters_2 (by decide)
theorem r83_3 (d : Nat) (st : List Value) (σ : am_St) (τ : Int64) (x : Int32) (v0 v1 v2 v3 v4 v5 v6 v7 v8 : Value) : am_run d 83 3 [v0, v1, v2, v3, v4, v5, v6, v7, v8] (.int x :: st) σ τ = am_run d 83 5 [v0, v1, v2, am_nl v3, .int x, v5, v6, v7, v8] st σ τ := rr_istore _ dX10_letters_3 (by decide) (by first | rfl | (by_cases h : v3.category = 2 <;> simp [am_set1, am_nl, h]))
theorem r83_5 (d : Nat) (st : List Value) (σ : am_St) (τ : Int64) (x : Int64) (v0 v2 v3 v4 v5 v6 v7 v8 : Value) : am_run d 83 5 [v0, .long x, v2, v3, v4, v5, v6, v7, v8] st σ τ = am_run d 83 6 [v0, .long x, v2, v3, v4, v5, v6, v7, v8] (.long x :: st) σ τ := rr_lload_n dX10_letters_5 rfl
theorem r83_6 (d : Nat) (st : List Value) (σ : am_St) (τ : Int64) (x : Int64) (v0 v1 v2 v3 v4 v5 v6 v7 v8 : Value) : am_run d 83 6 [v0, v1, v2, v3, v4, v5, v6, v7, v8] (.long x :: st) σ τ = am_run d 83 8 [v0, v1, v2, v3, am_nl v4, .long x, .null, v7, v8] st σ τ := rr_lstore _ dX10_letters_6 (by decide) (by first | rfl | (by_cases h : v4.category = 2 <;> simp [am_set2, am_set1, am_nl, h]))
theorem r83_8 (d : Nat) (ls st : List Value) (σ : am_St) (τ : Int64) : am_run d 83 8 ls st σ τ = am_run d 83 9 ls (.int 0 :: st) σ τ := rr_iconst 0 dX10_letters_8 (by decide)
theorem r83_9 (d : Nat) (st : List Value) (σ : am_St) (τ : Int64) (x : Int32) (v0 v1 v2 v3 v4 v5 v6 v7 v8 : Value) : am_run d 83 9 [v0, v1, v2, v3, v4, v5, v6, v7, v8] (.int x :: st) σ τ = am_run d 83 11 [v0, v1, v2, v3, v4, v5, am_nl v6, .int x, v8] st σ τ := rr_istore _ dX10_letters_9 (by decide) (by first | rfl | (by_cases h : v6.category = 2 <;> simp [am_set1, am_nl, h]))
theorem r83_11 (d : Nat) (st : List Value) (σ : am_St) (τ : Int64) (x : Int32) (v0 v1 v2 v3 v4 v5 v6 v8 : Value) : am_run d 83 11 [v0, v1, v2, v3, v4, v5, v6, .int x, v8] st σ τ = am_run d 83 13 [v0, v1, v2, v3, v4, v5, v6, .int x, v8] (.int x :: st) σ τ := rr_iload dX10_letters_11 rfl
theorem r83_13 (d : Nat) (ls st : List Value) (σ : am_St) (τ : Int64) : am_run d 83 13 ls st σ τ = am_run d 83 15 ls (.int 8 :: st) σ τ := rr_bipush 8 dX10_letters_13 (by decide)
theorem r83_15 (d : Nat) (ls st : List Value) (σ : am_St) (τ : Int64) (x y : Int32) : am_run d 83 15 ls (.int y :: .int x :: st) σ τ = if y ≤ x then am_run d 83 83 ls st σ τ else am_run d 83 18 ls st σ τ := (rr_icmp 83 dX10_letters_15 (by decide)).trans am_sel
theorem r83_18 (d : Nat) (st : List Value) (σ : am_St) (τ : Int64) (x : Int64) (v0 v1 v2 v3 v4 v6 v7 v8 : Value) : am_run d 83 18 [v0, v1, v2, v3, v4, .long x, v6, v7, v8] st σ τ = am_run d 83 20 [v0, v1, v2, v3, v4, .long x, v6, v7, v8] (.long x :: st) σ τ := rr_lload dX10_letters_18 rfl
theorem r83_20 (d : Nat) (ls st : List Value) (σ : am_St) (τ : Int64) : am_run d 83 20 ls st σ τ = am_run d 83 23 ls (.long 255 :: st) σ τ := rr_ldc2 255 dX10_letters_20 (by decide +kernel)
theorem r83_23 (d : Nat) (ls st : List Value) (σ : am_St) (τ : Int64) (x y : Int64) : am_run d 83 23 ls (.long y :: .long x :: st) σ τ = am_run d 83 24 ls (.long (x &&& y) :: st) σ τ := rr_land dX10_letters_23
theorem r83_24 (d : Nat) (ls st : List Value) (σ : am_St) (τ : Int64) (x : Int64) : am_run d 83 24 ls (.long x :: st) σ τ = am_run d 83 25 ls (.int x.toInt32 :: st) σ τ := rr_l2i dX10_letters_24
theorem r83_25 (d : Nat) (st : List Value) (σ : am_St) (τ : Int64) (x : Int32) (v0 v1 v2 v3 v4 v5 v6 v7 v8 : Value) : am_run d 83 25 [v0, v1, v2, v3, v4, v5, v6, v7, v8] (.int x :: st) σ τ = am_run d 83 27 [v0, v1, v2, v3, v4, v5, v6, am_nl v7, .int x] st σ τ := rr_istore _ dX10_letters_25 (by decide) (by first | rfl | (by_cases h : v7.category = 2 <;> simp [am_set1, am_nl, h]))
theorem r83_27 (d : Nat) (st : List Value) (σ : am_St) (τ : Int64) (x : Int64) (v0 v1 v2 v3 v4 v6 v7 v8 : Value) : am_run d 83 27 [v0, v1, v2, v3, v4, .long x, v6, v7, v8] st σ τ = am_run d 83 29 [v0, v1, v2, v3, v4, .long x, v6, v7, v8] (.long x :: st) σ τ := rr_lload dX10_letters_27 rfl
theorem r83_29 (d : Nat) (ls st : List Value) (σ : am_St) (τ : Int64) : am_run d 83 29 ls st σ τ = am_run d 83 31 ls (.int 8 :: st) σ τ := rr_bipush 8 dX10_letters_29 (by decide)
theorem r83_31 (d : Nat) (ls st : List Value) (σ : am_St) (τ : Int64) (x : Int64) (y : Int32) : am_run d 83 31 ls (.int y :: .long x :: st) σ τ = am_run d 83 32 ls (.long (x.toUInt64 >>> (y.toInt64.toUInt64 &&& Int64.toUInt64 63)).toInt64 :: st) σ τ := rr_lushr dX10_letters_31
theorem r83_32 (d : Nat) (st : List Value) (σ : am_St) (τ : Int64) (x : Int64) (v0 v1 v2 v3 v4 v5 v6 v7 v8 : Value) : am_run d 83 32 [v0, v1, v2, v3, v4, v5, v6, v7, v8] (.long x :: st) σ τ = am_run d 83 34 [v0, v1, v2, v3, am_nl v4, .long x, .null, v7, v8] st σ τ := rr_lstore _ dX10_letters_32 (by decide) (by first | rfl | (by_cases h : v4.category = 2 <;> simp [am_set2, am_set1, am_nl, h]))
theorem r83_34 (d : Nat) (st : List Value) (σ : am_St) (τ : Int64) (x : Int32) (v0 v1 v2 v3 v5 v6 v7 v8 : Value) : am_run d 83 34 [v0, v1, v2, v3, .int x, v5, v6, v7, v8] st σ τ = am_run d 83 36 [v0, v1, v2, v3, .int x, v5, v6, v7, v8] (.int x :: st) σ τ := rr_iload dX10_letters_34 rfl
theorem r83_36 (d : Nat) (ls st : List Value) (σ : am_St) (τ : Int64) (x : Int32) : am_run d 83 36 ls (.int x :: st) σ τ = if x = 0 then am_run d 83 61 ls st σ τ else am_run d 83 39 ls st σ τ := (rr_if 61 dX10_letters_36 (by decide)).trans am_sel
theorem r83_39 (d : Nat) (st : List Value) (σ : am_St) (τ : Int64) (x : Int32) (v0 v1 v2 v3 v4 v5 v6 v7 : Value) : am_run d 83 39 [v0, v1, v2, v3, v4, v5, v6, v7, .int x] st σ τ = am_run d 83 41 [v0, v1, v2, v3, v4, v5, v6, v7, .int x] (.int x :: st) σ τ := rr_iload dX10_letters_39 rfl
theorem r83_41 (d : Nat) (ls st : List Value) (σ : am_St) (τ : Int64) : am_run d 83 41 ls st σ τ = am_run d 83 43 ls (.int 126 :: st) σ τ := rr_bipush 126 dX10_letters_41 (by decide)
theorem r83_43 (d : Nat) (ls st : List Value) (σ : am_St) (τ : Int64) (x y : Int32) : am_run d 83 43 ls (.int y :: .int x :: st) σ τ = if y < x then am_run d 83 61 ls st σ τ else am_run d 83 46 ls st σ τ := (rr_icmp 61 dX10_letters_43 (by decide)).trans am_sel
theorem r83_46 (d : Nat) (st : List Value) (σ : am_St) (τ : Int64) (x : Int32) (v0 v1 v2 v3 v4 v5 v6 v7 : Value) : am_run d 83 46 [v0, v1, v2, v3, v4, v5, v6, v7, .int x] st σ τ = am_run d 83 48 [v0, v1, v2, v3, v4, v5, v6, v7, .int x] (.int x :: st) σ τ := rr_iload dX10_letters_46 rfl
theorem r83_48 (d : Nat) (ls st : List Value) (σ : am_St) (τ : Int64) (x : Int32) : am_run d 83 48 ls (.int x :: st) σ τ = if x = 0 then am_run d 83 57 ls st σ τ else am_run d 83 51 ls st σ τ := (rr_if 57 dX10_letters_48 (by decide)).trans am_sel
theorem r83_51 (d : Nat) (st : List Value) (σ : am_St) (τ : Int64) (x : Int32) (v0 v1 v2 v4 v5 v6 v7 v8 : Value) : am_run d 83 51 [v0, v1, v2, .int x, v4, v5, v6, v7, v8] st σ τ = am_run d 83 52 [v0, v1, v2, .int x, v4, v5, v6, v7, v8] (.int x :: st) σ τ := rr_iload_n dX10_letters_51 rfl
theorem r83_52 (d : Nat) (st : List Value) (σ : am_St) (τ : Int64) (x : Int32) (v0 v1 v2 v3 v4 v5 v6 v8 : Value) : am_run d 83 52 [v0, v1, v2, v3, v4, v5, v6, .int x, v8] st σ τ = am_run d 83 54 [v0, v1, v2, v3, v4, v5, v6, .int x, v8] (.int x :: st) σ τ := rr_iload dX10_letters_52 rfl
theorem r83_54 (d : Nat) (ls st : List Value) (σ : am_St) (τ : Int64) (x y : Int32) : am_run d 83 54 ls (.int y :: .int x :: st) σ τ = if x = y then am_run d 83 57 ls st σ τ else am_run d 83 61 ls st σ τ := (rr_icmp 61 dX10_letters_54 (by decide)).trans am_seln
theorem r83_57 (d : Nat) (ls st : List Value) (σ : am_St) (τ : Int64) : am_run d 83 57 ls st σ τ = am_run d 83 58 ls (.int 1 :: st) σ τ := rr_iconst 1 dX10_letters_57 (by decide)
theorem r83_58 (d : Nat) (ls st : List Value) (σ : am_St) (τ : Int64) : am_run d 83 58 ls st σ τ = am_run d 83 62 ls st σ τ := rr_goto 62 dX10_letters_58 (by decide)
theorem r83_61 (d : Nat) (ls st : List Value) (σ : am_St) (τ : Int64) : am_run d 83 61 ls st σ τ = am_run d 83 62 ls (.int 0 :: st) σ τ := rr_iconst 0 dX10_letters_61 (by decide)
theorem r83_62 (d : Nat) (st : List Value) (σ : am_St) (τ : Int64) (x : Int32) (v0 v1 v2 v3 v4 v5 v6 v7 v8 : Value) : am_run d 83 62 [v0, v1, v2, v3, v4, v5, v6, v7, v8] (.int x :: st) σ τ = am_run d 83 64 [v0, v1, v2, am_nl v3, .int x, v5, v6, v7, v8] st σ τ := rr_istore _ dX10_letters_62 (by decide) (by first | rfl | (by_cases h : v3.category = 2 <;> simp [am_set1, am_nl, h]))
theorem r83_64 (d : Nat) (st : List Value) (σ : am_St) (τ : Int64) (x : Int32) (v0 v1 v2 v4 v5 v6 v7 v8 : Value) : am_run d 83 64 [v0, v1, v2, .int x, v4, v5, v6, v7, v8] st σ τ = am_run d 83 65 [v0, v1, v2, .int x, v4, v5, v6, v7, v8] (.int x :: st) σ τ := rr_iload_n dX10_letters_64 rfl
theorem r83_65 (d : Nat) (st : List Value) (σ : am_St) (τ : Int64) (x : Int32) (v0 v1 v2 v3 v4 v5 v6 v7 : Value) : am_run d 83 65 [v0, v1, v2, v3, v4, v5, v6, v7, .int x] st σ τ = am_run d 83 67 [v0, v1, v2, v3, v4, v5, v6, v7, .int x] (.int x :: st) σ τ := rr_iload dX10_letters_65 rfl
theorem r83_67 (d : Nat) (ls st : List Value) (σ : am_St) (τ : Int64) (x : Int32) : am_run d 83 67 ls (.int x :: st) σ τ = if x ≤ 0 then am_run d 83 74 ls st σ τ else am_run d 83 70 ls st σ τ := (rr_if 74 dX10_letters_67 (by decide)).trans am_sel
theorem r83_70 (d : Nat) (ls st : List Value) (σ : am_St) (τ : Int64) : am_run d 83 70 ls st σ τ = am_run d 83 71 ls (.int 1 :: st) σ τ := rr_iconst 1 dX10_letters_70 (by decide)
theorem r83_71 (d : Nat) (ls st : List Value) (σ : am_St) (τ : Int64) : am_run d 83 71 ls st σ τ = am_run d 83 75 ls st σ τ := rr_goto 75 dX10_letters_71 (by decide)
theorem r83_74 (d : Nat) (ls st : List Value) (σ : am_St) (τ : Int64) : am_run d 83 74 ls st σ τ = am_run d 83 75 ls (.int 0 :: st) σ τ := rr_iconst 0 dX10_letters_74 (by decide)
theorem r83_75 (d : Nat) (ls st : List Value) (σ : am_St) (τ : Int64) (x y : Int32) : am_run d 83 75 ls (.int y :: .int x :: st) σ τ = am_run d 83 76 ls (.int (x + y) :: st) σ τ := rr_iadd dX10_letters_75
theorem r83_76 (d : Nat) (st : List Value) (σ : am_St) (τ : Int64) (x : Int32) (v0 v1 v2 v3 v4 v5 v6 v7 v8 : Value) : am_run d 83 76 [v0, v1, v2, v3, v4, v5, v6, v7, v8] (.int x :: st) σ τ = am_run d 83 77 [v0, v1, am_nl v2, .int x, v4, v5, v6, v7, v8] st σ τ := rr_istore_n _ dX10_letters_76 (by decide) (by first | rfl | (by_cases h : v2.category = 2 <;> simp [am_set1, am_nl, h]))
theorem r83_77 (d : Nat) (st : List Value) (σ : am_St) (τ : Int64) (x : Int32) (v0 v1 v2 v3 v4 v5 v6 v8 : Value) : am_run d 83 77 [v0, v1, v2, v3, v4, v5, v6, .int x, v8] st σ τ = am_run d 83 80 [v0, v1, v2, v3, v4, v5, am_nl v6, .int (x + 1), v8] st σ τ := rr_iinc 1 _ dX10_letters_77 rfl (by decide) (by decide) (by first | rfl | (by_cases h : v6.category = 2 <;> simp [am_set1, am_nl, h]))
theorem r83_80 (d : Nat) (ls st : List Value) (σ : am_St) (τ : Int64) : am_run d 83 80 ls st σ τ = am_run d 83 11 ls st σ τ := rr_goto 11 dX10_letters_80 (by decide)
theorem r83_83 (d : Nat) (st : List Value) (σ : am_St) (τ : Int64) (x : Int32) (v0 v1 v2 v3 v5 v6 v7 v8 : Value) : am_run d 83 83 [v0, v1, v2, v3, .int x, v5, v6, v7, v8] st σ τ = am_run d 83 85 [v0, v1, v2, v3, .int x, v5, v6, v7, v8] (.int x :: st) σ τ := rr_iload dX10_letters_83 rfl
theorem r83_85 (d : Nat) (ls st : List Value) (σ : am_St) (τ : Int64) (x : Int32) : am_run d 83 85 ls (.int x :: st) σ τ = if x = 0 then am_run d 83 88 ls st σ τ else am_run d 83 91 ls st σ τ := (rr_if 91 dX10_letters_85 (by decide)).trans am_seln
theorem r83_88 (d : Nat) (ls st : List Value) (σ : am_St) (τ : Int64) : am_run d 83 88 ls st σ τ = am_run d 83 90 ls (.int (-102) :: st) σ τ := rr_bipush (-102) dX10_letters_88 (by decide)
theorem r83_90 (d : Nat) (ls : List Value) (σ : am_St) (τ : Int64) (x : Int32) : am_run d 83 90 ls [.int x] σ τ = some (some (.int x), σ, τ) := rr_iret dX10_letters_90 rfl
theorem r83_91 (d : Nat) (st : List Value) (σ : am_St) (τ : Int64) (x : Nat) (v1 v2 v3 v4 v5 v6 v7 v8 : Value) : am_run d 83 91 [.ref x, v1, v2, v3, v4, v5, v6, v7, v8] st σ τ = am_run d 83 92 [.ref x, v1, v2, v3, v4, v5, v6, v7, v8] (.ref x :: st) σ τ := rr_aload_n dX10_letters_91 rfl
theorem r83_92 (d : Nat) (ls st : List Value) (σ : am_St) (τ : Int64) (k : Nat) : am_run d 83 92 ls (.ref k :: st) σ τ = am_gf k 10 1 σ τ (fun v => am_run d 83 95 ls (v :: st) σ τ) := rr_getf dX10_letters_92 (by decide +kernel)
theorem r83_95 (d : Nat) (st : List Value) (σ : am_St) (τ : Int64) (x : Int32) (v0 v1 v2 v4 v5 v6 v7 v8 : Value) : am_run d 83 95 [v0, v1, v2, .int x, v4, v5, v6, v7, v8] st σ τ = am_run d 83 96 [v0, v1, v2, .int x, v4, v5, v6, v7, v8] (.int x :: st) σ τ := rr_iload_n dX10_letters_95 rfl
theorem r83_96 (d : Nat) (ls st : List Value) (σ : am_St) (τ : Int64) (x y : Int32) : am_run d 83 96 ls (.int y :: .int x :: st) σ τ = am_run d 83 97 ls (.int (x + y) :: st) σ τ := rr_iadd dX10_letters_96
theorem r83_97 (d : Nat) (ls st : List Value) (σ : am_St) (τ : Int64) : am_run d 83 97 ls st σ τ = am_run d 83 99 ls (.int 16 :: st) σ τ := rr_bipush 16 dX10_letters_97 (by decide)
theorem r83_99 (d : Nat) (ls st : List Value) (σ : am_St) (τ : Int64) (x y : Int32) : am_run d 83 99 ls (.int y :: .int x :: st) σ τ = if x ≤ y then am_run d 83 105 ls st σ τ else am_run d 83 102 ls st σ τ := (rr_icmp 105 dX10_letters_99 (by decide)).trans am_sel
theorem r83_102 (d : Nat) (ls st : List Value) (σ : am_St) (τ : Int64) : am_run d 83 102 ls st σ τ = am_run d 83 104 ls (.int (-104) :: st) σ τ := rr_bipush (-104) dX10_letters_102 (by decide)
theorem r83_104 (d : Nat) (ls : List Value) (σ : am_St) (τ : Int64) (x : Int32) : am_run d 83 104 ls [.int x] σ τ = some (some (.int x), σ, τ) := rr_iret dX10_letters_104 rfl
theorem r83_105 (d : Nat) (ls st : List Value) (σ : am_St) (τ : Int64) : am_run d 83 105 ls st σ τ = am_run d 83 106 ls (.int 0 :: st) σ τ := rr_iconst 0 dX10_letters_105 (by decide)
theorem r83_106 (d : Nat) (st : List Value) (σ : am_St) (τ : Int64) (x : Int32) (v0 v1 v2 v3 v4 v5 v6 v7 v8 : Value) : am_run d 83 106 [v0, v1, v2, v3, v4, v5, v6, v7, v8] (.int x :: st) σ τ = am_run d 83 108 [v0, v1, v2, v3, v4, v5, am_nl v6, .int x, v8] st σ τ := rr_istore _ dX10_letters_106 (by decide) (by first | rfl | (by_cases h : v6.category = 2 <;> simp [am_set1, am_nl, h]))
theorem r83_108 (d : Nat) (st : List Value) (σ : am_St) (τ : Int64) (x : Int32) (v0 v1 v2 v3 v4 v5 v6 v8 : Value) : am_run d 83 108 [v0, v1, v2, v3, v4, v5, v6, .int x, v8] st σ τ = am_run d 83 110 [v0, v1, v2, v3, v4, v5, v6, .int x, v8] (.int x :: st) σ τ := rr_iload dX10_letters_108 rfl
theorem r83_110 (d : Nat) (st : List Value) (σ : am_St) (τ : Int64) (x : Int32) (v0 v1 v2 v4 v5 v6 v7 v8 : Value) : am_run d 83 110 [v0, v1, v2, .int x, v4, v5, v6, v7, v8] st σ τ = am_run d 83 111 [v0, v1, v2, .int x, v4, v5, v6, v7, v8] (.int x :: st) σ τ := rr_iload_n dX10_letters_110 rfl
theorem r83_111 (d : Nat) (ls st : List Value) (σ : am_St) (τ : Int64) (x y : Int32) : am_run d 83 111 ls (.int y :: .int x :: st) σ τ = if y ≤ x then am_run d 83 151 ls st σ τ else am_run d 83 114 ls st σ τ := (rr_icmp 151 dX10_letters_111 (by decide)).trans am_sel
theorem r83_114 (d : Nat) (st : List Value) (σ : am_St) (τ : Int64) (x : Nat) (v1 v2 v3 v4 v5 v6 v7 v8 : Value) : am_run d 83 114 [.ref x, v1, v2, v3, v4, v5, v6, v7, v8] st σ τ = am_run d 83 115 [.ref x, v1, v2, v3, v4, v5, v6, v7, v8] (.ref x :: st) σ τ := rr_aload_n dX10_letters_114 rfl
theorem r83_115 (d : Nat) (ls st : List Value) (σ : am_St) (τ : Int64) (k : Nat) : am_run d 83 115 ls (.ref k :: st) σ τ = am_gf k 10 0 σ τ (fun v => am_run d 83 118 ls (v :: st) σ τ) := rr_getf dX10_letters_115 (by decide +kernel)
theorem r83_118 (d : Nat) (st : List Value) (σ : am_St) (τ : Int64) (x : Nat) (v1 v2 v3 v4 v5 v6 v7 v8 : Value) : am_run d 83 118 [.ref x, v1, v2, v3, v4, v5, v6, v7, v8] st σ τ = am_run d 83 119 [.ref x, v1, v2, v3, v4, v5, v6, v7, v8] (.ref x :: st) σ τ := rr_aload_n dX10_letters_118 rfl
theorem r83_119 (d : Nat) (ls st : List Value) (σ : am_St) (τ : Int64) (k : Nat) : am_run d 83 119 ls (.ref k :: st) σ τ = am_gf k 10 1 σ τ (fun v => am_run d 83 122 ls (v :: st) σ τ) := rr_getf dX10_letters_119 (by decide +kernel)
theorem r83_122 (d : Nat) (st : List Value) (σ : am_St) (τ : Int64) (x : Int64) (v0 v2 v3 v4 v5 v6 v7 v8 : Value) : am_run d 83 122 [v0, .long x, v2, v3, v4, v5, v6, v7, v8] st σ τ = am_run d 83 123 [v0, .long x, v2, v3, v4, v5, v6, v7, v8] (.long x :: st) σ τ := rr_lload_n dX10_letters_122 rfl
theorem r83_123 (d : Nat) (ls st : List Value) (σ : am_St) (τ : Int64) : am_run d 83 123 ls st σ τ = am_run d 83 125 ls (.int 8 :: st) σ τ := rr_bipush 8 dX10_letters_123 (by decide)
theorem r83_125 (d : Nat) (st : List Value) (σ : am_St) (τ : Int64) (x : Int32) (v0 v1 v2 v3 v4 v5 v6 v8 : Value) : am_run d 83 125 [v0, v1, v2, v3, v4, v5, v6, .int x, v8] st σ τ = am_run d 83 127 [v0, v1, v2, v3, v4, v5, v6, .int x, v8] (.int x :: st) σ τ := rr_iload dX10_letters_125 rfl
theorem r83_127 (d : Nat) (ls st : List Value) (σ : am_St) (τ : Int64) (x y : Int32) : am_run d 83 127 ls (.int y :: .int x :: st) σ τ = am_run d 83 128 ls (.int (x * y) :: st) σ τ := rr_imul dX10_letters_127
theorem r83_128 (d : Nat) (ls st : List Value) (σ : am_St) (τ : Int64) (x : Int64) (y : Int32) : am_run d 83 128 ls (.int y :: .long x :: st) σ τ = am_run d 83 129 ls (.long (x.toUInt64 >>> (y.toInt64.toUInt64 &&& Int64.toUInt64 63)).toInt64 :: st) σ τ := rr_lushr dX10_letters_128
theorem r83_129 (d : Nat) (ls st : List Value) (σ : am_St) (τ : Int64) : am_run d 83 129 ls st σ τ = am_run d 83 132 ls (.long 255 :: st) σ τ := rr_ldc2 255 dX10_letters_129 (by decide +kernel)
theorem r83_132 (d : Nat) (ls st : List Value) (σ : am_St) (τ : Int64) (x y : Int64) : am_run d 83 132 ls (.long y :: .long x :: st) σ τ = am_run d 83 133 ls (.long (x &&& y) :: st) σ τ := rr_land dX10_letters_132
theorem r83_133 (d : Nat) (ls st : List Value) (σ : am_St) (τ : Int64) (x : Int64) : am_run d 83 133 ls (.long x :: st) σ τ = am_run d 83 134 ls (.int x.toInt32 :: st) σ τ := rr_l2i dX10_letters_133
theorem r83_134 (d : Nat) (ls st : List Value) (σ : am_St) (τ : Int64) (x i : Int32) (k : Nat) : am_run d 83 134 ls (.int x :: .int i :: .ref k :: st) σ τ = am_ai false k i (fun j => am_run d 83 135 ls st (am_up σ k j x) τ) := rr_iast dX10_letters_134
theorem r83_135 (d : Nat) (st : List Value) (σ : am_St) (τ : Int64) (x : Nat) (v1 v2 v3 v4 v5 v6 v7 v8 : Value) : am_run d 83 135 [.ref x, v1, v2, v3, v4, v5, v6, v7, v8] st σ τ = am_run d 83 136 [.ref x, v1, v2, v3, v4, v5, v6, v7, v8] (.ref x :: st) σ τ := rr_aload_n dX10_letters_135 rfl
theorem r83_136 (d : Nat) (ls st : List Value) (σ : am_St) (τ : Int64) (x : Nat) : am_run d 83 136 ls (.ref x :: st) σ τ = am_run d 83 137 ls (.ref x :: .ref x :: st) σ τ := rr_dup_r dX10_letters_136
theorem r83_136i (d : Nat) (ls st : List Value) (σ : am_St) (τ : Int64) (x : Int32) : am_run d 83 136 ls (.int x :: st) σ τ = am_run d 83 137 ls (.int x :: .int x :: st) σ τ := rr_dup_i dX10_letters_136
theorem r83_137 (d : Nat) (ls st : List Value) (σ : am_St) (τ : Int64) (k : Nat) : am_run d 83 137 ls (.ref k :: st) σ τ = am_gf k 10 1 σ τ (fun v => am_run d 83 140 ls (v :: st) σ τ) := rr_getf dX10_letters_137 (by decide +kernel)
theorem r83_140 (d : Nat) (ls st : List Value) (σ : am_St) (τ : Int64) : am_run d 83 140 ls st σ τ = am_run d 83 141 ls (.int 1 :: st) σ τ := rr_iconst 1 dX10_letters_140 (by decide)
theorem r83_141 (d : Nat) (ls st : List Value) (σ : am_St) (τ : Int64) (x y : Int32) : am_run d 83 141 ls (.int y :: .int x :: st) σ τ = am_run d 83 142 ls (.int (x + y) :: st) σ τ := rr_iadd dX10_letters_141
theorem r83_142 (d : Nat) (ls st : List Value) (σ : am_St) (τ : Int64) (k : Nat) (x : Int32) : am_run d 83 142 ls (.int x :: .ref k :: st) σ τ = am_pf k 10 1 x σ (fun σ => am_run d 83 145 ls st σ τ) := rr_putf dX10_letters_142 (by decide +kernel)
theorem r83_145 (d : Nat) (st : List Value) (σ : am_St) (τ : Int64) (x : Int32) (v0 v1 v2 v3 v4 v5 v6 v8 : Value) : am_run d 83 145 [v0, v1, v2, v3, v4, v5, v6, .int x, v8] st σ τ = am_run d 83 148 [v0, v1, v2, v3, v4, v5, am_nl v6, .int (x + 1), v8] st σ τ := rr_iinc 1 _ dX10_letters_145 rfl (by decide) (by decide) (by first | rfl | (by_cases h : v6.category = 2 <;> simp [am_set1, am_nl, h]))
theorem r83_148 (d : Nat) (ls st : List Value) (σ : am_St) (τ : Int64) : am_run d 83 148 ls st σ τ = am_run d 83 108 ls st σ τ := rr_goto 108 dX10_letters_148 (by decide)
theorem r83_151 (d : Nat) (st : List Value) (σ : am_St) (τ : Int64) (x : Nat) (v1 v2 v3 v4 v5 v6 v7 v8 : Value) : am_run d 83 151 [.ref x, v1, v2, v3, v4, v5, v6, v7, v8] st σ τ = am_run d 83 152 [.ref x, v1, v2, v3, v4, v5, v6, v7, v8] (.ref x :: st) σ τ := rr_aload_n dX10_letters_151 rfl
theorem r83_152 (d : Nat) (ls st : List Value) (σ : am_St) (τ : Int64) (k : Nat) : am_run d 83 152 ls (.ref k :: st) σ τ = am_gf k 10 1 σ τ (fun v => am_run d 83 155 ls (v :: st) σ τ) := rr_getf dX10_letters_152 (by decide +kernel)
theorem r83_155 (d : Nat) (ls : List Value) (σ : am_St) (τ : Int64) (x : Int32) : am_run d 83 155 ls [.int x] σ τ = some (some (.int x), σ, τ) := rr_iret dX10_letters_155 rfl
theorem dX10_blank_0 : decode (am_code 84) 0 = .ok (.aload_n 0, 1) := by decide +kernel
theorem dX10_blank_1 : decode (am_code 84) 1 = .ok (.getfield 98, 3) := by decide +kernel
theorem dX10_blank_4 : decode (am_code 84) 4 = .ok (.istore_n 1, 1) := by decide +kernel
theorem dX10_blank_5 : decode (am_code 84) 5 = .ok (.aload_n 0, 1) := by decide +kernel
theorem dX10_blank_6 : decode (am_code 84) 6 = .ok (.iconst 0, 1) := by decide +kernel
theorem dX10_blank_7 : decode (am_code 84) 7 = .ok (.putfield 98, 3) := by decide +kernel
theorem dX10_blank_10 : decode (am_code 84) 10 = .ok (.iload_n 1, 1) := by decide +kernel
theorem dX10_blank_11 : decode (am_code 84) 11 = .ok (.ireturn, 1) := by decide +kernel
theorem r84_0 (d : Nat) (st : List Value) (σ : am_St) (τ : Int64) (x : Nat) (v1 : Value) : am_run d 84 0 [.ref x, v1] st σ τ = am_run d 84 1 [.ref x, v1] (.ref x :: st) σ τ := rr_aload_n dX10_blank_0 rfl
theorem r84_1 (d : Nat) (ls st : List Value) (σ : am_St) (τ : Int64) (k : Nat) : am_run d 84 1 ls (.ref k :: st) σ τ = am_gf k 10 1 σ τ (fun v => am_run d 84 4 ls (v :: st) σ τ) := rr_getf dX10_blank_1 (by decide +kernel)
theorem r84_4 (d : Nat) (st : List Value) (σ : am_St) (τ : Int64) (x : Int32) (v0 v1 : Value) : am_run d 84 4 [v0, v1] (.int x :: st) σ τ = am_run d 84 5 [am_nl v0, .int x] st σ τ := rr_istore_n _ dX10_blank_4 (by decide) (by first | rfl | (by_cases h : v0.category = 2 <;> simp [am_set1, am_nl, h]))
theorem r84_5 (d : Nat) (st : List Value) (σ : am_St) (τ : Int64) (x : Nat) (v1 : Value) : am_run d 84 5 [.ref x, v1] st σ τ = am_run d 84 6 [.ref x, v1] (.ref x :: st) σ τ := rr_aload_n dX10_blank_5 rfl
theorem r84_6 (d : Nat) (ls st : List Value) (σ : am_St) (τ : Int64) : am_run d 84 6 ls st σ τ = am_run d 84 7 ls (.int 0 :: st) σ τ := rr_iconst 0 dX10_blank_6 (by decide)
theorem r84_7 (d : Nat) (ls st : List Value) (σ : am_St) (τ : Int64) (k : Nat) (x : Int32) : am_run d 84 7 ls (.int x :: .ref k :: st) σ τ = am_pf k 10 1 x σ (fun σ => am_run d 84 10 ls st σ τ) := rr_putf dX10_blank_7 (by decide +kernel)
theorem r84_10 (d : Nat) (st : List Value) (σ : am_St) (τ : Int64) (x : Int32) (v0 : Value) : am_run d 84 10 [v0, .int x] st σ τ = am_run d 84 11 [v0, .int x] (.int x :: st) σ τ := rr_iload_n dX10_blank_10 rfl
theorem r84_11 (d : Nat) (ls : List Value) (σ : am_St) (τ : Int64) (x : Int32) : am_run d 84 11 ls [.int x] σ τ = some (some (.int x), σ, τ) := rr_iret dX10_blank_11 rfl
theorem dX10_ruleOf_0 : decode (am_code 85) 0 = .ok (.iload_n 0, 1) := by decide +kernel
theorem dX10_ruleOf_1 : decode (am_code 85) 1 = .ok (.bipush 102, 2) := by decide +kernel
theorem dX10_ruleOf_3 : decode (am_code 85) 3 = .ok (.if_icmp .ne 7, 3) := by decide +kernel
theorem dX10_ruleOf_6 : decode (am_code 85) 6 = .ok (.iconst 0, 1) := by decide +kernel
theorem dX10_ruleOf_7 : decode (am_code 85) 7 = .ok (.goto 34, 3) := by decide +kernel
theorem dX10_ruleOf_10 : decode (am_code 85) 10 = .ok (.iload_n 0, 1) := by decide +kernel
theorem dX10_ruleOf_11 : decode (am_code 85) 11 = .ok (.bipush 109, 2) := by decide +kernel
theorem dX10_ruleOf_13 : decode (am_code 85) 13 = .ok (.if_icmp .ne 7, 3) := by decide +kernel
theorem dX10_ruleOf_16 : decode (am_code 85) 16 = .ok (.iconst 1, 1) := by decide +kernel
theorem dX10_ruleOf_17 : decode (am_code 85) 17 = .ok (.goto 24, 3) := by decide +kernel
theorem dX10_ruleOf_20 : decode (am_code 85) 20 = .ok (.iload_n 0, 1) := by decide +kernel
theorem dX10_ruleOf_21 : decode (am_code 85) 21 = .ok (.bipush 103, 2) := by decide +kernel
theorem dX10_ruleOf_23 : decode (am_code 85) 23 = .ok (.if_icmp .ne 7, 3) := by decide +kernel
theorem dX10_ruleOf_26 : decode (am_code 85) 26 = .ok (.iconst 2, 1) := by decide +kernel
theorem dX10_ruleOf_27 : decode (am_code 85) 27 = .ok (.goto 14, 3) := by decide +kernel
theorem dX10_ruleOf_30 : decode (am_code 85) 30 = .ok (.iload_n 0, 1) := by decide +kernel
theorem dX10_ruleOf_31 : decode (am_code 85) 31 = .ok (.bipush 112, 2) := by decide +kernel
theorem dX10_ruleOf_33 : decode (am_code 85) 33 = .ok (.if_icmp .ne 7, 3) := by decide +kernel
theorem dX10_ruleOf_36 : decode (am_code 85) 36 = .ok (.iconst 3, 1) := by decide +kernel
theorem dX10_ruleOf_37 : decode (am_code 85) 37 = .ok (.goto 4, 3) := by decide +kernel
theorem dX10_ruleOf_40 : decode (am_code 85) 40 = .ok (.iconst (-1), 1) := by decide +kernel
theorem dX10_ruleOf_41 : decode (am_code 85) 41 = .ok (.ireturn, 1) := by decide +kernel
theorem r85_0 (d : Nat) (st : List Value) (σ : am_St) (τ : Int64) (x : Int32) : am_run d 85 0 [.int x] st σ τ = am_run d 85 1 [.int x] (.int x :: st) σ τ := rr_iload_n dX10_ruleOf_0 rfl
theorem r85_1 (d : Nat) (ls st : List Value) (σ : am_St) (τ : Int64) : am_run d 85 1 ls st σ τ = am_run d 85 3 ls (.int 102 :: st) σ τ := rr_bipush 102 dX10_ruleOf_1 (by decide)
theorem r85_3 (d : Nat) (ls st : List Value) (σ : am_St) (τ : Int64) (x y : Int32) : am_run d 85 3 ls (.int y :: .int x :: st) σ τ = if x = y then am_run d 85 6 ls st σ τ else am_run d 85 10 ls st σ τ := (rr_icmp 10 dX10_ruleOf_3 (by decide)).trans am_seln
theorem r85_6 (d : Nat) (ls st : List Value) (σ : am_St) (τ : Int64) : am_run d 85 6 ls st σ τ = am_run d 85 7 ls (.int 0 :: st) σ τ := rr_iconst 0 dX10_ruleOf_6 (by decide)
theorem r85_7 (d : Nat) (ls st : List Value) (σ : am_St) (τ : Int64) : am_run d 85 7 ls st σ τ = am_run d 85 41 ls st σ τ := rr_goto 41 dX10_ruleOf_7 (by decide)
theorem r85_10 (d : Nat) (st : List Value) (σ : am_St) (τ : Int64) (x : Int32) : am_run d 85 10 [.int x] st σ τ = am_run d 85 11 [.int x] (.int x :: st) σ τ := rr_iload_n dX10_ruleOf_10 rfl
theorem r85_11 (d : Nat) (ls st : List Value) (σ : am_St) (τ : Int64) : am_run d 85 11 ls st σ τ = am_run d 85 13 ls (.int 109 :: st) σ τ := rr_bipush 109 dX10_ruleOf_11 (by decide)
theorem r85_13 (d : Nat) (ls st : List Value) (σ : am_St) (τ : Int64) (x y : Int32) : am_run d 85 13 ls (.int y :: .int x :: st) σ τ = if x = y then am_run d 85 16 ls st σ τ else am_run d 85 20 ls st σ τ := (rr_icmp 20 dX10_ruleOf_13 (by decide)).trans am_seln
theorem r85_16 (d : Nat) (ls st : List Value) (σ : am_St) (τ : Int64) : am_run d 85 16 ls st σ τ = am_run d 85 17 ls (.int 1 :: st) σ τ := rr_iconst 1 dX10_ruleOf_16 (by decide)
theorem r85_17 (d : Nat) (ls st : List Value) (σ : am_St) (τ : Int64) : am_run d 85 17 ls st σ τ = am_run d 85 41 ls st σ τ := rr_goto 41 dX10_ruleOf_17 (by decide)
theorem r85_20 (d : Nat) (st : List Value) (σ : am_St) (τ : Int64) (x : Int32) : am_run d 85 20 [.int x] st σ τ = am_run d 85 21 [.int x] (.int x :: st) σ τ := rr_iload_n dX10_ruleOf_20 rfl
theorem r85_21 (d : Nat) (ls st : List Value) (σ : am_St) (τ : Int64) : am_run d 85 21 ls st σ τ = am_run d 85 23 ls (.int 103 :: st) σ τ := rr_bipush 103 dX10_ruleOf_21 (by decide)
theorem r85_23 (d : Nat) (ls st : List Value) (σ : am_St) (τ : Int64) (x y : Int32) : am_run d 85 23 ls (.int y :: .int x :: st) σ τ = if x = y then am_run d 85 26 ls st σ τ else am_run d 85 30 ls st σ τ := (rr_icmp 30 dX10_ruleOf_23 (by decide)).trans am_seln
theorem r85_26 (d : Nat) (ls st : List Value) (σ : am_St) (τ : Int64) : am_run d 85 26 ls st σ τ = am_run d 85 27 ls (.int 2 :: st) σ τ := rr_iconst 2 dX10_ruleOf_26 (by decide)
theorem r85_27 (d : Nat) (ls st : List Value) (σ : am_St) (τ : Int64) : am_run d 85 27 ls st σ τ = am_run d 85 41 ls st σ τ := rr_goto 41 dX10_ruleOf_27 (by decide)
theorem r85_30 (d : Nat) (st : List Value) (σ : am_St) (τ : Int64) (x : Int32) : am_run d 85 30 [.int x] st σ τ = am_run d 85 31 [.int x] (.int x :: st) σ τ := rr_iload_n dX10_ruleOf_30 rfl
theorem r85_31 (d : Nat) (ls st : List Value) (σ : am_St) (τ : Int64) : am_run d 85 31 ls st σ τ = am_run d 85 33 ls (.int 112 :: st) σ τ := rr_bipush 112 dX10_ruleOf_31 (by decide)
theorem r85_33 (d : Nat) (ls st : List Value) (σ : am_St) (τ : Int64) (x y : Int32) : am_run d 85 33 ls (.int y :: .int x :: st) σ τ = if x = y then am_run d 85 36 ls st σ τ else am_run d 85 40 ls st σ τ := (rr_icmp 40 dX10_ruleOf_33 (by decide)).trans am_seln
theorem r85_36 (d : Nat) (ls st : List Value) (σ : am_St) (τ : Int64) : am_run d 85 36 ls st σ τ = am_run d 85 37 ls (.int 3 :: st) σ τ := rr_iconst 3 dX10_ruleOf_36 (by decide)
theorem r85_37 (d : Nat) (ls st : List Value) (σ : am_St) (τ : Int64) : am_run d 85 37 ls st σ τ = am_run d 85 41 ls st σ τ := rr_goto 41 dX10_ruleOf_37 (by decide)
theorem r85_40 (d : Nat) (ls st : List Value) (σ : am_St) (τ : Int64) : am_run d 85 40 ls st σ τ = am_run d 85 41 ls (.int (-1) :: st) σ τ := rr_iconst (-1) dX10_ruleOf_40 (by decide)
theorem r85_41 (d : Nat) (ls : List Value) (σ : am_St) (τ : Int64) (x : Int32) : am_run d 85 41 ls [.int x] σ τ = some (some (.int x), σ, τ) := rr_iret dX10_ruleOf_41 rfl
theorem dX10_go_0 : decode (am_code 86) 0 = .ok (.aload_n 0, 1) := by decide +kernel
theorem dX10_go_1 : decode (am_code 86) 1 = .ok (.getfield 101, 3) := by decide +kernel
theorem dX10_go_4 : decode (am_code 86) 4 = .ok (.istore_n 2, 1) := by decide +kernel
theorem dX10_go_5 : decode (am_code 86) 5 = .ok (.iload_n 2, 1) := by decide +kernel
theorem dX10_go_6 : decode (am_code 86) 6 = .ok (.ifCond .eq 13, 3) := by decide +kernel
theorem dX10_go_9 : decode (am_code 86) 9 = .ok (.iload_n 2, 1) := by decide +kernel
theorem dX10_go_10 : decode (am_code 86) 10 = .ok (.iconst 2, 1) := by decide +kernel
theorem dX10_go_11 : decode (am_code 86) 11 = .ok (.if_icmp .eq 8, 3) := by decide +kernel
theorem dX10_go_14 : decode (am_code 86) 14 = .ok (.iload_n 2, 1) := by decide +kernel
theorem dX10_go_15 : decode (am_code 86) 15 = .ok (.iconst 4, 1) := by decide +kernel
theorem dX10_go_16 : decode (am_code 86) 16 = .ok (.if_icmp .ne 51, 3) := by decide +kernel
theorem dX10_go_19 : decode (am_code 86) 19 = .ok (.aload_n 0, 1) := by decide +kernel
theorem dX10_go_20 : decode (am_code 86) 20 = .ok (.getfield 16, 3) := by decide +kernel
theorem dX10_go_23 : decode (am_code 86) 23 = .ok (.iload_n 2, 1) := by decide +kernel
theorem dX10_go_24 : decode (am_code 86) 24 = .ok (.ifCond .ne 7, 3) := by decide +kernel
theorem dX10_go_27 : decode (am_code 86) 27 = .ok (.iconst 0, 1) := by decide +kernel
theorem dX10_go_28 : decode (am_code 86) 28 = .ok (.goto 13, 3) := by decide +kernel
theorem dX10_go_31 : decode (am_code 86) 31 = .ok (.iload_n 2, 1) := by decide +kernel
theorem dX10_go_32 : decode (am_code 86) 32 = .ok (.iconst 2, 1) := by decide +kernel
theorem dX10_go_33 : decode (am_code 86) 33 = .ok (.if_icmp .ne 7, 3) := by decide +kernel
theorem dX10_go_36 : decode (am_code 86) 36 = .ok (.iconst 2, 1) := by decide +kernel
theorem dX10_go_37 : decode (am_code 86) 37 = .ok (.goto 4, 3) := by decide +kernel
theorem dX10_go_40 : decode (am_code 86) 40 = .ok (.iconst 3, 1) := by decide +kernel
theorem dX10_go_41 : decode (am_code 86) 41 = .ok (.iload_n 1, 1) := by decide +kernel
theorem dX10_go_42 : decode (am_code 86) 42 = .ok (.invokestatic 104, 3) := by decide +kernel
theorem dX10_go_45 : decode (am_code 86) 45 = .ok (.iastore, 1) := by decide +kernel
theorem dX10_go_46 : decode (am_code 86) 46 = .ok (.aload_n 0, 1) := by decide +kernel
theorem dX10_go_47 : decode (am_code 86) 47 = .ok (.iload_n 2, 1) := by decide +kernel
theorem dX10_go_48 : decode (am_code 86) 48 = .ok (.iconst 1, 1) := by decide +kernel
theorem dX10_go_49 : decode (am_code 86) 49 = .ok (.iadd, 1) := by decide +kernel
theorem dX10_go_50 : decode (am_code 86) 50 = .ok (.putfield 101, 3) := by decide +kernel
theorem dX10_go_53 : decode (am_code 86) 53 = .ok (.iload_n 1, 1) := by decide +kernel
theorem dX10_go_54 : decode (am_code 86) 54 = .ok (.invokestatic 104, 3) := by decide +kernel
theorem dX10_go_57 : decode (am_code 86) 57 = .ok (.iconst (-1), 1) := by decide +kernel
theorem dX10_go_58 : decode (am_code 86) 58 = .ok (.if_icmp .eq 7, 3) := by decide +kernel
theorem dX10_go_61 : decode (am_code 86) 61 = .ok (.iconst 1, 1) := by decide +kernel
theorem dX10_go_62 : decode (am_code 86) 62 = .ok (.goto 4, 3) := by decide +kernel
theorem dX10_go_65 : decode (am_code 86) 65 = .ok (.iconst 0, 1) := by decide +kernel
theorem dX10_go_66 : decode (am_code 86) 66 = .ok (.ireturn, 1) := by decide +kernel
theorem dX10_go_67 : decode (am_code 86) 67 = .ok (.iload_n 2, 1) := by decide +kernel
theorem dX10_go_68 : decode (am_code 86) 68 = .ok (.iconst 1, 1) := by decide +kernel
theorem dX10_go_69 : decode (am_code 86) 69 = .ok (.if_icmp .eq 8, 3) := by decide +kernel
theorem dX10_go_72 : decode (am_code 86) 72 = .ok (.iload_n 2, 1) := by decide +kernel
theorem dX10_go_73 : decode (am_code 86) 73 = .ok (.iconst 3, 1) := by decide +kernel
theorem dX10_go_74 : decode (am_code 86) 74 = .ok (.if_icmp .ne 16, 3) := by decide +kernel
theorem dX10_go_77 : decode (am_code 86) 77 = .ok (.iload_n 1, 1) := by decide +kernel
theorem dX10_go_78 : decode (am_code 86) 78 = .ok (.bipush 116, 2) := by decide +kernel
theorem dX10_go_80 : decode (am_code 86) 80 = .ok (.if_icmp .ne 10, 3) := by decide +kernel
theorem dX10_go_83 : decode (am_code 86) 83 = .ok (.aload_n 0, 1) := by decide +kernel
theorem dX10_go_84 : decode (am_code 86) 84 = .ok (.iconst 4, 1) := by decide +kernel
theorem dX10_go_85 : decode (am_code 86) 85 = .ok (.putfield 101, 3) := by decide +kernel
theorem dX10_go_88 : decode (am_code 86) 88 = .ok (.iconst 1, 1) := by decide +kernel
theorem dX10_go_89 : decode (am_code 86) 89 = .ok (.ireturn, 1) := by decide +kernel
theorem dX10_go_90 : decode (am_code 86) 90 = .ok (.aload_n 0, 1) := by decide +kernel
theorem dX10_go_91 : decode (am_code 86) 91 = .ok (.getfield 16, 3) := by decide +kernel
theorem dX10_go_94 : decode (am_code 86) 94 = .ok (.iconst 1, 1) := by decide +kernel
theorem dX10_go_95 : decode (am_code 86) 95 = .ok (.iload_n 2, 1) := by decide +kernel
theorem dX10_go_96 : decode (am_code 86) 96 = .ok (.iconst 1, 1) := by decide +kernel
theorem dX10_go_97 : decode (am_code 86) 97 = .ok (.if_icmp .ne 10, 3) := by decide +kernel
theorem dX10_go_100 : decode (am_code 86) 100 = .ok (.iload_n 1, 1) := by decide +kernel
theorem dX10_go_101 : decode (am_code 86) 101 = .ok (.bipush 48, 2) := by decide +kernel
theorem dX10_go_103 : decode (am_code 86) 103 = .ok (.isub, 1) := by decide +kernel
theorem dX10_go_104 : decode (am_code 86) 104 = .ok (.goto 9, 3) := by decide +kernel
theorem dX10_go_107 : decode (am_code 86) 107 = .ok (.aload_n 0, 1) := by decide +kernel
theorem dX10_go_108 : decode (am_code 86) 108 = .ok (.getfield 16, 3) := by decide +kernel
theorem dX10_go_111 : decode (am_code 86) 111 = .ok (.iconst 1, 1) := by decide +kernel
theorem dX10_go_112 : decode (am_code 86) 112 = .ok (.iaload, 1) := by decide +kernel
theorem dX10_go_113 : decode (am_code 86) 113 = .ok (.iastore, 1) := by decide +kernel
theorem dX10_go_114 : decode (am_code 86) 114 = .ok (.aload_n 0, 1) := by decide +kernel
theorem dX10_go_115 : decode (am_code 86) 115 = .ok (.iconst 2, 1) := by decide +kernel
theorem dX10_go_116 : decode (am_code 86) 116 = .ok (.putfield 101, 3) := by decide +kernel
theorem dX10_go_119 : decode (am_code 86) 119 = .ok (.iload_n 2, 1) := by decide +kernel
theorem dX10_go_120 : decode (am_code 86) 120 = .ok (.iconst 1, 1) := by decide +kernel
theorem dX10_go_121 : decode (am_code 86) 121 = .ok (.if_icmp .ne 21, 3) := by decide +kernel
theorem dX10_go_124 : decode (am_code 86) 124 = .ok (.iload_n 1, 1) := by decide +kernel
theorem dX10_go_125 : decode (am_code 86) 125 = .ok (.i2l, 1) := by decide +kernel
theorem dX10_go_126 : decode (am_code 86) 126 = .ok (.ldc2_w 108, 3) := by decide +kernel
theorem dX10_go_129 : decode (am_code 86) 129 = .ok (.ldc2_w 110, 3) := by decide +kernel
theorem dX10_go_132 : decode (am_code 86) 132 = .ok (.invokestatic 112, 3) := by decide +kernel
theorem dX10_go_135 : decode (am_code 86) 135 = .ok (.ifCond .eq 7, 3) := by decide +kernel
theorem dX10_go_138 : decode (am_code 86) 138 = .ok (.iconst 1, 1) := by decide +kernel
theorem dX10_go_139 : decode (am_code 86) 139 = .ok (.goto 4, 3) := by decide +kernel
theorem dX10_go_142 : decode (am_code 86) 142 = .ok (.iconst 0, 1) := by decide +kernel
theorem dX10_go_143 : decode (am_code 86) 143 = .ok (.ireturn, 1) := by decide +kernel
theorem r86_0 (d : Nat) (st : List Value) (σ : am_St) (τ : Int64) (x : Nat) (v1 v2 : Value) : am_run d 86 0 [.ref x, v1, v2] st σ τ = am_run d 86 1 [.ref x, v1, v2] (.ref x :: st) σ τ := rr_aload_n dX10_go_0 rfl
theorem r86_1 (d : Nat) (ls st : List Value) (σ : am_St) (τ : Int64) (k : Nat) : am_run d 86 1 ls (.ref k :: st) σ τ = am_gf k 10 5 σ τ (fun v => am_run d 86 4 ls (v :: st) σ τ) := rr_getf dX10_go_1 (by decide +kernel)
theorem r86_4 (d : Nat) (st : List Value) (σ : am_St) (τ : Int64) (x : Int32) (v0 v1 v2 : Value) : am_run d 86 4 [v0, v1, v2] (.int x :: st) σ τ = am_run d 86 5 [v0, am_nl v1, .int x] st σ τ := rr_istore_n _ dX10_go_4 (by decide) (by first | rfl | (by_cases h : v1.category = 2 <;> simp [am_set1, am_nl, h]))
theorem r86_5 (d : Nat) (st : List Value) (σ : am_St) (τ : Int64) (x : Int32) (v0 v1 : Value) : am_run d 86 5 [v0, v1, .int x] st σ τ = am_run d 86 6 [v0, v1, .int x] (.int x :: st) σ τ := rr_iload_n dX10_go_5 rfl
theorem r86_6 (d : Nat) (ls st : List Value) (σ : am_St) (τ : Int64) (x : Int32) : am_run d 86 6 ls (.int x :: st) σ τ = if x = 0 then am_run d 86 19 ls st σ τ else am_run d 86 9 ls st σ τ := (rr_if 19 dX10_go_6 (by decide)).trans am_sel
theorem r86_9 (d : Nat) (st : List Value) (σ : am_St) (τ : Int64) (x : Int32) (v0 v1 : Value) : am_run d 86 9 [v0, v1, .int x] st σ τ = am_run d 86 10 [v0, v1, .int x] (.int x :: st) σ τ := rr_iload_n dX10_go_9 rfl
theorem r86_10 (d : Nat) (ls st : List Value) (σ : am_St) (τ : Int64) : am_run d 86 10 ls st σ τ = am_run d 86 11 ls (.int 2 :: st) σ τ := rr_iconst 2 dX10_go_10 (by decide)
theorem r86_11 (d : Nat) (ls st : List Value) (σ : am_St) (τ : Int64) (x y : Int32) : am_run d 86 11 ls (.int y :: .int x :: st) σ τ = if x = y then am_run d 86 19 ls st σ τ else am_run d 86 14 ls st σ τ := (rr_icmp 19 dX10_go_11 (by decide)).trans am_sel
theorem r86_14 (d : Nat) (st : List Value) (σ : am_St) (τ : Int64) (x : Int32) (v0 v1 : Value) : am_run d 86 14 [v0, v1, .int x] st σ τ = am_run d 86 15 [v0, v1, .int x] (.int x :: st) σ τ := rr_iload_n dX10_go_14 rfl
theorem r86_15 (d : Nat) (ls st : List Value) (σ : am_St) (τ : Int64) : am_run d 86 15 ls st σ τ = am_run d 86 16 ls (.int 4 :: st) σ τ := rr_iconst 4 dX10_go_15 (by decide)
theorem r86_16 (d : Nat) (ls st : List Value) (σ : am_St) (τ : Int64) (x y : Int32) : am_run d 86 16 ls (.int y :: .int x :: st) σ τ = if x = y then am_run d 86 19 ls st σ τ else am_run d 86 67 ls st σ τ := (rr_icmp 67 dX10_go_16 (by decide)).trans am_seln
theorem r86_19 (d : Nat) (st : List Value) (σ : am_St) (τ : Int64) (x : Nat) (v1 v2 : Value) : am_run d 86 19 [.ref x, v1, v2] st σ τ = am_run d 86 20 [.ref x, v1, v2] (.ref x :: st) σ τ := rr_aload_n dX10_go_19 rfl
theorem r86_20 (d : Nat) (ls st : List Value) (σ : am_St) (τ : Int64) (k : Nat) : am_run d 86 20 ls (.ref k :: st) σ τ = am_gf k 10 3 σ τ (fun v => am_run d 86 23 ls (v :: st) σ τ) := rr_getf dX10_go_20 (by decide +kernel)
theorem r86_23 (d : Nat) (st : List Value) (σ : am_St) (τ : Int64) (x : Int32) (v0 v1 : Value) : am_run d 86 23 [v0, v1, .int x] st σ τ = am_run d 86 24 [v0, v1, .int x] (.int x :: st) σ τ := rr_iload_n dX10_go_23 rfl
theorem r86_24 (d : Nat) (ls st : List Value) (σ : am_St) (τ : Int64) (x : Int32) : am_run d 86 24 ls (.int x :: st) σ τ = if x = 0 then am_run d 86 27 ls st σ τ else am_run d 86 31 ls st σ τ := (rr_if 31 dX10_go_24 (by decide)).trans am_seln
theorem r86_27 (d : Nat) (ls st : List Value) (σ : am_St) (τ : Int64) : am_run d 86 27 ls st σ τ = am_run d 86 28 ls (.int 0 :: st) σ τ := rr_iconst 0 dX10_go_27 (by decide)
theorem r86_28 (d : Nat) (ls st : List Value) (σ : am_St) (τ : Int64) : am_run d 86 28 ls st σ τ = am_run d 86 41 ls st σ τ := rr_goto 41 dX10_go_28 (by decide)
theorem r86_31 (d : Nat) (st : List Value) (σ : am_St) (τ : Int64) (x : Int32) (v0 v1 : Value) : am_run d 86 31 [v0, v1, .int x] st σ τ = am_run d 86 32 [v0, v1, .int x] (.int x :: st) σ τ := rr_iload_n dX10_go_31 rfl
theorem r86_32 (d : Nat) (ls st : List Value) (σ : am_St) (τ : Int64) : am_run d 86 32 ls st σ τ = am_run d 86 33 ls (.int 2 :: st) σ τ := rr_iconst 2 dX10_go_32 (by decide)
theorem r86_33 (d : Nat) (ls st : List Value) (σ : am_St) (τ : Int64) (x y : Int32) : am_run d 86 33 ls (.int y :: .int x :: st) σ τ = if x = y then am_run d 86 36 ls st σ τ else am_run d 86 40 ls st σ τ := (rr_icmp 40 dX10_go_33 (by decide)).trans am_seln
theorem r86_36 (d : Nat) (ls st : List Value) (σ : am_St) (τ : Int64) : am_run d 86 36 ls st σ τ = am_run d 86 37 ls (.int 2 :: st) σ τ := rr_iconst 2 dX10_go_36 (by decide)
theorem r86_37 (d : Nat) (ls st : List Value) (σ : am_St) (τ : Int64) : am_run d 86 37 ls st σ τ = am_run d 86 41 ls st σ τ := rr_goto 41 dX10_go_37 (by decide)
theorem r86_40 (d : Nat) (ls st : List Value) (σ : am_St) (τ : Int64) : am_run d 86 40 ls st σ τ = am_run d 86 41 ls (.int 3 :: st) σ τ := rr_iconst 3 dX10_go_40 (by decide)
theorem r86_41 (d : Nat) (st : List Value) (σ : am_St) (τ : Int64) (x : Int32) (v0 v2 : Value) : am_run d 86 41 [v0, .int x, v2] st σ τ = am_run d 86 42 [v0, .int x, v2] (.int x :: st) σ τ := rr_iload_n dX10_go_41 rfl
theorem r86_42 (d : Nat) (ls st : List Value) (σ : am_St) (τ : Int64) (a0 : Int32) (hc : am_cats st ≤ 8) : am_run (d + 1) 86 42 ls (.int a0 :: st) σ τ = (am_call d 85 [.int a0] σ τ).bind (fun r => am_run (d + 1) 86 45 ls (r.1.toList ++ st) r.2.1 r.2.2) := rr_invs [.int a0] dX10_go_42 (by decide +kernel) (by decide +kernel) (by decide) rfl (Nat.le_of_ble_eq_true rfl) hc
theorem r86_45 (d : Nat) (ls st : List Value) (σ : am_St) (τ : Int64) (x i : Int32) (k : Nat) : am_run d 86 45 ls (.int x :: .int i :: .ref k :: st) σ τ = am_ai false k i (fun j => am_run d 86 46 ls st (am_up σ k j x) τ) := rr_iast dX10_go_45
theorem r86_46 (d : Nat) (st : List Value) (σ : am_St) (τ : Int64) (x : Nat) (v1 v2 : Value) : am_run d 86 46 [.ref x, v1, v2] st σ τ = am_run d 86 47 [.ref x, v1, v2] (.ref x :: st) σ τ := rr_aload_n dX10_go_46 rfl
theorem r86_47 (d : Nat) (st : List Value) (σ : am_St) (τ : Int64) (x : Int32) (v0 v1 : Value) : am_run d 86 47 [v0, v1, .int x] st σ τ = am_run d 86 48 [v0, v1, .int x] (.int x :: st) σ τ := rr_iload_n dX10_go_47 rfl
theorem r86_48 (d : Nat) (ls st : List Value) (σ : am_St) (τ : Int64) : am_run d 86 48 ls st σ τ = am_run d 86 49 ls (.int 1 :: st) σ τ := rr_iconst 1 dX10_go_48 (by decide)
theorem r86_49 (d : Nat) (ls st : List Value) (σ : am_St) (τ : Int64) (x y : Int32) : am_run d 86 49 ls (.int y :: .int x :: st) σ τ = am_run d 86 50 ls (.int (x + y) :: st) σ τ := rr_iadd dX10_go_49
theorem r86_50 (d : Nat) (ls st : List Value) (σ : am_St) (τ : Int64) (k : Nat) (x : Int32) : am_run d 86 50 ls (.int x :: .ref k :: st) σ τ = am_pf k 10 5 x σ (fun σ => am_run d 86 53 ls st σ τ) := rr_putf dX10_go_50 (by decide +kernel)
theorem r86_53 (d : Nat) (st : List Value) (σ : am_St) (τ : Int64) (x : Int32) (v0 v2 : Value) : am_run d 86 53 [v0, .int x, v2] st σ τ = am_run d 86 54 [v0, .int x, v2] (.int x :: st) σ τ := rr_iload_n dX10_go_53 rfl
theorem r86_54 (d : Nat) (ls st : List Value) (σ : am_St) (τ : Int64) (a0 : Int32) (hc : am_cats st ≤ 8) : am_run (d + 1) 86 54 ls (.int a0 :: st) σ τ = (am_call d 85 [.int a0] σ τ).bind (fun r => am_run (d + 1) 86 57 ls (r.1.toList ++ st) r.2.1 r.2.2) := rr_invs [.int a0] dX10_go_54 (by decide +kernel) (by decide +kernel) (by decide) rfl (Nat.le_of_ble_eq_true rfl) hc
theorem r86_57 (d : Nat) (ls st : List Value) (σ : am_St) (τ : Int64) : am_run d 86 57 ls st σ τ = am_run d 86 58 ls (.int (-1) :: st) σ τ := rr_iconst (-1) dX10_go_57 (by decide)
theorem r86_58 (d : Nat) (ls st : List Value) (σ : am_St) (τ : Int64) (x y : Int32) : am_run d 86 58 ls (.int y :: .int x :: st) σ τ = if x = y then am_run d 86 65 ls st σ τ else am_run d 86 61 ls st σ τ := (rr_icmp 65 dX10_go_58 (by decide)).trans am_sel
theorem r86_61 (d : Nat) (ls st : List Value) (σ : am_St) (τ : Int64) : am_run d 86 61 ls st σ τ = am_run d 86 62 ls (.int 1 :: st) σ τ := rr_iconst 1 dX10_go_61 (by decide)
theorem r86_62 (d : Nat) (ls st : List Value) (σ : am_St) (τ : Int64) : am_run d 86 62 ls st σ τ = am_run d 86 66 ls st σ τ := rr_goto 66 dX10_go_62 (by decide)
theorem r86_65 (d : Nat) (ls st : List Value) (σ : am_St) (τ : Int64) : am_run d 86 65 ls st σ τ = am_run d 86 66 ls (.int 0 :: st) σ τ := rr_iconst 0 dX10_go_65 (by decide)
theorem r86_66 (d : Nat) (ls : List Value) (σ : am_St) (τ : Int64) (x : Int32) (hx : x = 0 ∨ x = 1) : am_run d 86 66 ls [.int x] σ τ = some (some (.int x), σ, τ) := rr_zret dX10_go_66 rfl hx
theorem r86_67 (d : Nat) (st : List Value) (σ : am_St) (τ : Int64) (x : Int32) (v0 v1 : Value) : am_run d 86 67 [v0, v1, .int x] st σ τ = am_run d 86 68 [v0, v1, .int x] (.int x :: st) σ τ := rr_iload_n dX10_go_67 rfl
theorem r86_68 (d : Nat) (ls st : List Value) (σ : am_St) (τ : Int64) : am_run d 86 68 ls st σ τ = am_run d 86 69 ls (.int 1 :: st) σ τ := rr_iconst 1 dX10_go_68 (by decide)
theorem r86_69 (d : Nat) (ls st : List Value) (σ : am_St) (τ : Int64) (x y : Int32) : am_run d 86 69 ls (.int y :: .int x :: st) σ τ = if x = y then am_run d 86 77 ls st σ τ else am_run d 86 72 ls st σ τ := (rr_icmp 77 dX10_go_69 (by decide)).trans am_sel
theorem r86_72 (d : Nat) (st : List Value) (σ : am_St) (τ : Int64) (x : Int32) (v0 v1 : Value) : am_run d 86 72 [v0, v1, .int x] st σ τ = am_run d 86 73 [v0, v1, .int x] (.int x :: st) σ τ := rr_iload_n dX10_go_72 rfl
theorem r86_73 (d : Nat) (ls st : List Value) (σ : am_St) (τ : Int64) : am_run d 86 73 ls st σ τ = am_run d 86 74 ls (.int 3 :: st) σ τ := rr_iconst 3 dX10_go_73 (by decide)
theorem r86_74 (d : Nat) (ls st : List Value) (σ : am_St) (τ : Int64) (x y : Int32) : am_run d 86 74 ls (.int y :: .int x :: st) σ τ = if x = y then am_run d 86 77 ls st σ τ else am_run d 86 90 ls st σ τ := (rr_icmp 90 dX10_go_74 (by decide)).trans am_seln
theorem r86_77 (d : Nat) (st : List Value) (σ : am_St) (τ : Int64) (x : Int32) (v0 v2 : Value) : am_run d 86 77 [v0, .int x, v2] st σ τ = am_run d 86 78 [v0, .int x, v2] (.int x :: st) σ τ := rr_iload_n dX10_go_77 rfl
theorem r86_78 (d : Nat) (ls st : List Value) (σ : am_St) (τ : Int64) : am_run d 86 78 ls st σ τ = am_run d 86 80 ls (.int 116 :: st) σ τ := rr_bipush 116 dX10_go_78 (by decide)
theorem r86_80 (d : Nat) (ls st : List Value) (σ : am_St) (τ : Int64) (x y : Int32) : am_run d 86 80 ls (.int y :: .int x :: st) σ τ = if x = y then am_run d 86 83 ls st σ τ else am_run d 86 90 ls st σ τ := (rr_icmp 90 dX10_go_80 (by decide)).trans am_seln
theorem r86_83 (d : Nat) (st : List Value) (σ : am_St) (τ : Int64) (x : Nat) (v1 v2 : Value) : am_run d 86 83 [.ref x, v1, v2] st σ τ = am_run d 86 84 [.ref x, v1, v2] (.ref x :: st) σ τ := rr_aload_n dX10_go_83 rfl
theorem r86_84 (d : Nat) (ls st : List Value) (σ : am_St) (τ : Int64) : am_run d 86 84 ls st σ τ = am_run d 86 85 ls (.int 4 :: st) σ τ := rr_iconst 4 dX10_go_84 (by decide)
theorem r86_85 (d : Nat) (ls st : List Value) (σ : am_St) (τ : Int64) (k : Nat) (x : Int32) : am_run d 86 85 ls (.int x :: .ref k :: st) σ τ = am_pf k 10 5 x σ (fun σ => am_run d 86 88 ls st σ τ) := rr_putf dX10_go_85 (by decide +kernel)
theorem r86_88 (d : Nat) (ls st : List Value) (σ : am_St) (τ : Int64) : am_run d 86 88 ls st σ τ = am_run d 86 89 ls (.int 1 :: st) σ τ := rr_iconst 1 dX10_go_88 (by decide)
theorem r86_89 (d : Nat) (ls : List Value) (σ : am_St) (τ : Int64) (x : Int32) (hx : x = 0 ∨ x = 1) : am_run d 86 89 ls [.int x] σ τ = some (some (.int x), σ, τ) := rr_zret dX10_go_89 rfl hx
theorem r86_90 (d : Nat) (st : List Value) (σ : am_St) (τ : Int64) (x : Nat) (v1 v2 : Value) : am_run d 86 90 [.ref x, v1, v2] st σ τ = am_run d 86 91 [.ref x, v1, v2] (.ref x :: st) σ τ := rr_aload_n dX10_go_90 rfl
theorem r86_91 (d : Nat) (ls st : List Value) (σ : am_St) (τ : Int64) (k : Nat) : am_run d 86 91 ls (.ref k :: st) σ τ = am_gf k 10 3 σ τ (fun v => am_run d 86 94 ls (v :: st) σ τ) := rr_getf dX10_go_91 (by decide +kernel)
theorem r86_94 (d : Nat) (ls st : List Value) (σ : am_St) (τ : Int64) : am_run d 86 94 ls st σ τ = am_run d 86 95 ls (.int 1 :: st) σ τ := rr_iconst 1 dX10_go_94 (by decide)
theorem r86_95 (d : Nat) (st : List Value) (σ : am_St) (τ : Int64) (x : Int32) (v0 v1 : Value) : am_run d 86 95 [v0, v1, .int x] st σ τ = am_run d 86 96 [v0, v1, .int x] (.int x :: st) σ τ := rr_iload_n dX10_go_95 rfl
theorem r86_96 (d : Nat) (ls st : List Value) (σ : am_St) (τ : Int64) : am_run d 86 96 ls st σ τ = am_run d 86 97 ls (.int 1 :: st) σ τ := rr_iconst 1 dX10_go_96 (by decide)
theorem r86_97 (d : Nat) (ls st : List Value) (σ : am_St) (τ : Int64) (x y : Int32) : am_run d 86 97 ls (.int y :: .int x :: st) σ τ = if x = y then am_run d 86 100 ls st σ τ else am_run d 86 107 ls st σ τ := (rr_icmp 107 dX10_go_97 (by decide)).trans am_seln
theorem r86_100 (d : Nat) (st : List Value) (σ : am_St) (τ : Int64) (x : Int32) (v0 v2 : Value) : am_run d 86 100 [v0, .int x, v2] st σ τ = am_run d 86 101 [v0, .int x, v2] (.int x :: st) σ τ := rr_iload_n dX10_go_100 rfl
theorem r86_101 (d : Nat) (ls st : List Value) (σ : am_St) (τ : Int64) : am_run d 86 101 ls st σ τ = am_run d 86 103 ls (.int 48 :: st) σ τ := rr_bipush 48 dX10_go_101 (by decide)
theorem r86_103 (d : Nat) (ls st : List Value) (σ : am_St) (τ : Int64) (x y : Int32) : am_run d 86 103 ls (.int y :: .int x :: st) σ τ = am_run d 86 104 ls (.int (x - y) :: st) σ τ := rr_isub dX10_go_103
theorem r86_104 (d : Nat) (ls st : List Value) (σ : am_St) (τ : Int64) : am_run d 86 104 ls st σ τ = am_run d 86 113 ls st σ τ := rr_goto 113 dX10_go_104 (by decide)
theorem r86_107 (d : Nat) (st : List Value) (σ : am_St) (τ : Int64) (x : Nat) (v1 v2 : Value) : am_run d 86 107 [.ref x, v1, v2] st σ τ = am_run d 86 108 [.ref x, v1, v2] (.ref x :: st) σ τ := rr_aload_n dX10_go_107 rfl
theorem r86_108 (d : Nat) (ls st : List Value) (σ : am_St) (τ : Int64) (k : Nat) : am_run d 86 108 ls (.ref k :: st) σ τ = am_gf k 10 3 σ τ (fun v => am_run d 86 111 ls (v :: st) σ τ) := rr_getf dX10_go_108 (by decide +kernel)
theorem r86_111 (d : Nat) (ls st : List Value) (σ : am_St) (τ : Int64) : am_run d 86 111 ls st σ τ = am_run d 86 112 ls (.int 1 :: st) σ τ := rr_iconst 1 dX10_go_111 (by decide)
theorem r86_112 (d : Nat) (ls st : List Value) (σ : am_St) (τ : Int64) (i : Int32) (k : Nat) : am_run d 86 112 ls (.int i :: .ref k :: st) σ τ = am_ai false k i (fun j => am_run d 86 113 ls (.int (σ k j) :: st) σ τ) := rr_iald dX10_go_112
theorem r86_113 (d : Nat) (ls st : List Value) (σ : am_St) (τ : Int64) (x i : Int32) (k : Nat) : am_run d 86 113 ls (.int x :: .int i :: .ref k :: st) σ τ = am_ai false k i (fun j => am_run d 86 114 ls st (am_up σ k j x) τ) := rr_iast dX10_go_113
theorem r86_114 (d : Nat) (st : List Value) (σ : am_St) (τ : Int64) (x : Nat) (v1 v2 : Value) : am_run d 86 114 [.ref x, v1, v2] st σ τ = am_run d 86 115 [.ref x, v1, v2] (.ref x :: st) σ τ := rr_aload_n dX10_go_114 rfl
theorem r86_115 (d : Nat) (ls st : List Value) (σ : am_St) (τ : Int64) : am_run d 86 115 ls st σ τ = am_run d 86 116 ls (.int 2 :: st) σ τ := rr_iconst 2 dX10_go_115 (by decide)
theorem r86_116 (d : Nat) (ls st : List Value) (σ : am_St) (τ : Int64) (k : Nat) (x : Int32) : am_run d 86 116 ls (.int x :: .ref k :: st) σ τ = am_pf k 10 5 x σ (fun σ => am_run d 86 119 ls st σ τ) := rr_putf dX10_go_116 (by decide +kernel)
theorem r86_119 (d : Nat) (st : List Value) (σ : am_St) (τ : Int64) (x : Int32) (v0 v1 : Value) : am_run d 86 119 [v0, v1, .int x] st σ τ = am_run d 86 120 [v0, v1, .int x] (.int x :: st) σ τ := rr_iload_n dX10_go_119 rfl
theorem r86_120 (d : Nat) (ls st : List Value) (σ : am_St) (τ : Int64) : am_run d 86 120 ls st σ τ = am_run d 86 121 ls (.int 1 :: st) σ τ := rr_iconst 1 dX10_go_120 (by decide)
theorem r86_121 (d : Nat) (ls st : List Value) (σ : am_St) (τ : Int64) (x y : Int32) : am_run d 86 121 ls (.int y :: .int x :: st) σ τ = if x = y then am_run d 86 124 ls st σ τ else am_run d 86 142 ls st σ τ := (rr_icmp 142 dX10_go_121 (by decide)).trans am_seln
theorem r86_124 (d : Nat) (st : List Value) (σ : am_St) (τ : Int64) (x : Int32) (v0 v2 : Value) : am_run d 86 124 [v0, .int x, v2] st σ τ = am_run d 86 125 [v0, .int x, v2] (.int x :: st) σ τ := rr_iload_n dX10_go_124 rfl
theorem r86_125 (d : Nat) (ls st : List Value) (σ : am_St) (τ : Int64) (x : Int32) : am_run d 86 125 ls (.int x :: st) σ τ = am_run d 86 126 ls (.long x.toInt64 :: st) σ τ := rr_i2l dX10_go_125
theorem r86_126 (d : Nat) (ls st : List Value) (σ : am_St) (τ : Int64) : am_run d 86 126 ls st σ τ = am_run d 86 129 ls (.long 50 :: st) σ τ := rr_ldc2 50 dX10_go_126 (by decide +kernel)
theorem r86_129 (d : Nat) (ls st : List Value) (σ : am_St) (τ : Int64) : am_run d 86 129 ls st σ τ = am_run d 86 132 ls (.long 53 :: st) σ τ := rr_ldc2 53 dX10_go_129 (by decide +kernel)
theorem r86_132 (d : Nat) (ls st : List Value) (σ : am_St) (τ : Int64) (a0 : Int64) (a1 : Int64) (a2 : Int64) (hc : am_cats st ≤ 8) : am_run (d + 1) 86 132 ls (.long a2 :: .long a1 :: .long a0 :: st) σ τ = (am_call d 82 [.long a0, .long a1, .long a2] σ τ).bind (fun r => am_run (d + 1) 86 135 ls (r.1.toList ++ st) r.2.1 r.2.2) := rr_invs [.long a0, .long a1, .long a2] dX10_go_132 (by decide +kernel) (by decide +kernel) (by decide) rfl (Nat.le_of_ble_eq_true rfl) hc
theorem r86_135 (d : Nat) (ls st : List Value) (σ : am_St) (τ : Int64) (x : Int32) : am_run d 86 135 ls (.int x :: st) σ τ = if x = 0 then am_run d 86 142 ls st σ τ else am_run d 86 138 ls st σ τ := (rr_if 142 dX10_go_135 (by decide)).trans am_sel
theorem r86_138 (d : Nat) (ls st : List Value) (σ : am_St) (τ : Int64) : am_run d 86 138 ls st σ τ = am_run d 86 139 ls (.int 1 :: st) σ τ := rr_iconst 1 dX10_go_138 (by decide)
theorem r86_139 (d : Nat) (ls st : List Value) (σ : am_St) (τ : Int64) : am_run d 86 139 ls st σ τ = am_run d 86 143 ls st σ τ := rr_goto 143 dX10_go_139 (by decide)
theorem r86_142 (d : Nat) (ls st : List Value) (σ : am_St) (τ : Int64) : am_run d 86 142 ls st σ τ = am_run d 86 143 ls (.int 0 :: st) σ τ := rr_iconst 0 dX10_go_142 (by decide)
theorem r86_143 (d : Nat) (ls : List Value) (σ : am_St) (τ : Int64) (x : Int32) (hx : x = 0 ∨ x = 1) : am_run d 86 143 ls [.int x] σ τ = some (some (.int x), σ, τ) := rr_zret dX10_go_143 rfl hx
theorem dX10_faultOf_0 : decode (am_code 87) 0 = .ok (.aload_n 0, 1) := by decide +kernel
theorem dX10_faultOf_1 : decode (am_code 87) 1 = .ok (.iconst 0, 1) := by decide +kernel
theorem dX10_faultOf_2 : decode (am_code 87) 2 = .ok (.putfield 101, 3) := by decide +kernel
theorem dX10_faultOf_5 : decode (am_code 87) 5 = .ok (.aload_n 0, 1) := by decide +kernel
theorem dX10_faultOf_6 : decode (am_code 87) 6 = .ok (.getfield 16, 3) := by decide +kernel
theorem dX10_faultOf_9 : decode (am_code 87) 9 = .ok (.iconst 1, 1) := by decide +kernel
theorem dX10_faultOf_10 : decode (am_code 87) 10 = .ok (.iconst 0, 1) := by decide +kernel
theorem dX10_faultOf_11 : decode (am_code 87) 11 = .ok (.iastore, 1) := by decide +kernel
theorem dX10_faultOf_12 : decode (am_code 87) 12 = .ok (.aload_n 0, 1) := by decide +kernel
theorem dX10_faultOf_13 : decode (am_code 87) 13 = .ok (.getfield 16, 3) := by decide +kernel
theorem dX10_faultOf_16 : decode (am_code 87) 16 = .ok (.iconst 2, 1) := by decide +kernel
theorem dX10_faultOf_17 : decode (am_code 87) 17 = .ok (.iconst (-1), 1) := by decide +kernel
theorem dX10_faultOf_18 : decode (am_code 87) 18 = .ok (.iastore, 1) := by decide +kernel
theorem dX10_faultOf_19 : decode (am_code 87) 19 = .ok (.aload_n 0, 1) := by decide +kernel
theorem dX10_faultOf_20 : decode (am_code 87) 20 = .ok (.getfield 16, 3) := by decide +kernel
theorem dX10_faultOf_23 : decode (am_code 87) 23 = .ok (.iconst 3, 1) := by decide +kernel
theorem dX10_faultOf_24 : decode (am_code 87) 24 = .ok (.iconst 1, 1) := by decide +kernel
theorem dX10_faultOf_25 : decode (am_code 87) 25 = .ok (.iastore, 1) := by decide +kernel
theorem dX10_faultOf_26 : decode (am_code 87) 26 = .ok (.iconst 0, 1) := by decide +kernel
theorem dX10_faultOf_27 : decode (am_code 87) 27 = .ok (.istore_n 1, 1) := by decide +kernel
theorem dX10_faultOf_28 : decode (am_code 87) 28 = .ok (.iload_n 1, 1) := by decide +kernel
theorem dX10_faultOf_29 : decode (am_code 87) 29 = .ok (.aload_n 0, 1) := by decide +kernel
theorem dX10_faultOf_30 : decode (am_code 87) 30 = .ok (.getfield 98, 3) := by decide +kernel
theorem dX10_faultOf_33 : decode (am_code 87) 33 = .ok (.if_icmp .ge 22, 3) := by decide +kernel
theorem dX10_faultOf_36 : decode (am_code 87) 36 = .ok (.aload_n 0, 1) := by decide +kernel
theorem dX10_faultOf_37 : decode (am_code 87) 37 = .ok (.aload_n 0, 1) := by decide +kernel
theorem dX10_faultOf_38 : decode (am_code 87) 38 = .ok (.getfield 7, 3) := by decide +kernel
theorem dX10_faultOf_41 : decode (am_code 87) 41 = .ok (.iload_n 1, 1) := by decide +kernel
theorem dX10_faultOf_42 : decode (am_code 87) 42 = .ok (.iaload, 1) := by decide +kernel
theorem dX10_faultOf_43 : decode (am_code 87) 43 = .ok (.invokevirtual 116, 3) := by decide +kernel
theorem dX10_faultOf_46 : decode (am_code 87) 46 = .ok (.ifCond .eq 9, 3) := by decide +kernel
theorem dX10_faultOf_49 : decode (am_code 87) 49 = .ok (.iinc 1 1, 3) := by decide +kernel
theorem dX10_faultOf_52 : decode (am_code 87) 52 = .ok (.goto (-24), 3) := by decide +kernel
theorem dX10_faultOf_55 : decode (am_code 87) 55 = .ok (.iload_n 1, 1) := by decide +kernel
theorem dX10_faultOf_56 : decode (am_code 87) 56 = .ok (.ireturn, 1) := by decide +kernel
theorem r87_0 (d : Nat) (st : List Value) (σ : am_St) (τ : Int64) (x : Nat) (v1 : Value) : am_run d 87 0 [.ref x, v1] st σ τ = am_run d 87 1 [.ref x, v1] (.ref x :: st) σ τ := rr_aload_n dX10_faultOf_0 rfl
theorem r87_1 (d : Nat) (ls st : List Value) (σ : am_St) (τ : Int64) : am_run d 87 1 ls st σ τ = am_run d 87 2 ls (.int 0 :: st) σ τ := rr_iconst 0 dX10_faultOf_1 (by decide)
theorem r87_2 (d : Nat) (ls st : List Value) (σ : am_St) (τ : Int64) (k : Nat) (x : Int32) : am_run d 87 2 ls (.int x :: .ref k :: st) σ τ = am_pf k 10 5 x σ (fun σ => am_run d 87 5 ls st σ τ) := rr_putf dX10_faultOf_2 (by decide +kernel)
theorem r87_5 (d : Nat) (st : List Value) (σ : am_St) (τ : Int64) (x : Nat) (v1 : Value) : am_run d 87 5 [.ref x, v1] st σ τ = am_run d 87 6 [.ref x, v1] (.ref x :: st) σ τ := rr_aload_n dX10_faultOf_5 rfl
theorem r87_6 (d : Nat) (ls st : List Value) (σ : am_St) (τ : Int64) (k : Nat) : am_run d 87 6 ls (.ref k :: st) σ τ = am_gf k 10 3 σ τ (fun v => am_run d 87 9 ls (v :: st) σ τ) := rr_getf dX10_faultOf_6 (by decide +kernel)
theorem r87_9 (d : Nat) (ls st : List Value) (σ : am_St) (τ : Int64) : am_run d 87 9 ls st σ τ = am_run d 87 10 ls (.int 1 :: st) σ τ := rr_iconst 1 dX10_faultOf_9 (by decide)
theorem r87_10 (d : Nat) (ls st : List Value) (σ : am_St) (τ : Int64) : am_run d 87 10 ls st σ τ = am_run d 87 11 ls (.int 0 :: st) σ τ := rr_iconst 0 dX10_faultOf_10 (by decide)
theorem r87_11 (d : Nat) (ls st : List Value) (σ : am_St) (τ : Int64) (x i : Int32) (k : Nat) : am_run d 87 11 ls (.int x :: .int i :: .ref k :: st) σ τ = am_ai false k i (fun j => am_run d 87 12 ls st (am_up σ k j x) τ) := rr_iast dX10_faultOf_11
theorem r87_12 (d : Nat) (st : List Value) (σ : am_St) (τ : Int64) (x : Nat) (v1 : Value) : am_run d 87 12 [.ref x, v1] st σ τ = am_run d 87 13 [.ref x, v1] (.ref x :: st) σ τ := rr_aload_n dX10_faultOf_12 rfl
theorem r87_13 (d : Nat) (ls st : List Value) (σ : am_St) (τ : Int64) (k : Nat) : am_run d 87 13 ls (.ref k :: st) σ τ = am_gf k 10 3 σ τ (fun v => am_run d 87 16 ls (v :: st) σ τ) := rr_getf dX10_faultOf_13 (by decide +kernel)
theorem r87_16 (d : Nat) (ls st : List Value) (σ : am_St) (τ : Int64) : am_run d 87 16 ls st σ τ = am_run d 87 17 ls (.int 2 :: st) σ τ := rr_iconst 2 dX10_faultOf_16 (by decide)
theorem r87_17 (d : Nat) (ls st : List Value) (σ : am_St) (τ : Int64) : am_run d 87 17 ls st σ τ = am_run d 87 18 ls (.int (-1) :: st) σ τ := rr_iconst (-1) dX10_faultOf_17 (by decide)
theorem r87_18 (d : Nat) (ls st : List Value) (σ : am_St) (τ : Int64) (x i : Int32) (k : Nat) : am_run d 87 18 ls (.int x :: .int i :: .ref k :: st) σ τ = am_ai false k i (fun j => am_run d 87 19 ls st (am_up σ k j x) τ) := rr_iast dX10_faultOf_18
theorem r87_19 (d : Nat) (st : List Value) (σ : am_St) (τ : Int64) (x : Nat) (v1 : Value) : am_run d 87 19 [.ref x, v1] st σ τ = am_run d 87 20 [.ref x, v1] (.ref x :: st) σ τ := rr_aload_n dX10_faultOf_19 rfl
theorem r87_20 (d : Nat) (ls st : List Value) (σ : am_St) (τ : Int64) (k : Nat) : am_run d 87 20 ls (.ref k :: st) σ τ = am_gf k 10 3 σ τ (fun v => am_run d 87 23 ls (v :: st) σ τ) := rr_getf dX10_faultOf_20 (by decide +kernel)
theorem r87_23 (d : Nat) (ls st : List Value) (σ : am_St) (τ : Int64) : am_run d 87 23 ls st σ τ = am_run d 87 24 ls (.int 3 :: st) σ τ := rr_iconst 3 dX10_faultOf_23 (by decide)
theorem r87_24 (d : Nat) (ls st : List Value) (σ : am_St) (τ : Int64) : am_run d 87 24 ls st σ τ = am_run d 87 25 ls (.int 1 :: st) σ τ := rr_iconst 1 dX10_faultOf_24 (by decide)
theorem r87_25 (d : Nat) (ls st : List Value) (σ : am_St) (τ : Int64) (x i : Int32) (k : Nat) : am_run d 87 25 ls (.int x :: .int i :: .ref k :: st) σ τ = am_ai false k i (fun j => am_run d 87 26 ls st (am_up σ k j x) τ) := rr_iast dX10_faultOf_25
theorem r87_26 (d : Nat) (ls st : List Value) (σ : am_St) (τ : Int64) : am_run d 87 26 ls st σ τ = am_run d 87 27 ls (.int 0 :: st) σ τ := rr_iconst 0 dX10_faultOf_26 (by decide)
theorem r87_27 (d : Nat) (st : List Value) (σ : am_St) (τ : Int64) (x : Int32) (v0 v1 : Value) : am_run d 87 27 [v0, v1] (.int x :: st) σ τ = am_run d 87 28 [am_nl v0, .int x] st σ τ := rr_istore_n _ dX10_faultOf_27 (by decide) (by first | rfl | (by_cases h : v0.category = 2 <;> simp [am_set1, am_nl, h]))
theorem r87_28 (d : Nat) (st : List Value) (σ : am_St) (τ : Int64) (x : Int32) (v0 : Value) : am_run d 87 28 [v0, .int x] st σ τ = am_run d 87 29 [v0, .int x] (.int x :: st) σ τ := rr_iload_n dX10_faultOf_28 rfl
theorem r87_29 (d : Nat) (st : List Value) (σ : am_St) (τ : Int64) (x : Nat) (v1 : Value) : am_run d 87 29 [.ref x, v1] st σ τ = am_run d 87 30 [.ref x, v1] (.ref x :: st) σ τ := rr_aload_n dX10_faultOf_29 rfl
theorem r87_30 (d : Nat) (ls st : List Value) (σ : am_St) (τ : Int64) (k : Nat) : am_run d 87 30 ls (.ref k :: st) σ τ = am_gf k 10 1 σ τ (fun v => am_run d 87 33 ls (v :: st) σ τ) := rr_getf dX10_faultOf_30 (by decide +kernel)
theorem r87_33 (d : Nat) (ls st : List Value) (σ : am_St) (τ : Int64) (x y : Int32) : am_run d 87 33 ls (.int y :: .int x :: st) σ τ = if y ≤ x then am_run d 87 55 ls st σ τ else am_run d 87 36 ls st σ τ := (rr_icmp 55 dX10_faultOf_33 (by decide)).trans am_sel
theorem r87_36 (d : Nat) (st : List Value) (σ : am_St) (τ : Int64) (x : Nat) (v1 : Value) : am_run d 87 36 [.ref x, v1] st σ τ = am_run d 87 37 [.ref x, v1] (.ref x :: st) σ τ := rr_aload_n dX10_faultOf_36 rfl
theorem r87_37 (d : Nat) (st : List Value) (σ : am_St) (τ : Int64) (x : Nat) (v1 : Value) : am_run d 87 37 [.ref x, v1] st σ τ = am_run d 87 38 [.ref x, v1] (.ref x :: st) σ τ := rr_aload_n dX10_faultOf_37 rfl
theorem r87_38 (d : Nat) (ls st : List Value) (σ : am_St) (τ : Int64) (k : Nat) : am_run d 87 38 ls (.ref k :: st) σ τ = am_gf k 10 0 σ τ (fun v => am_run d 87 41 ls (v :: st) σ τ) := rr_getf dX10_faultOf_38 (by decide +kernel)
theorem r87_41 (d : Nat) (st : List Value) (σ : am_St) (τ : Int64) (x : Int32) (v0 : Value) : am_run d 87 41 [v0, .int x] st σ τ = am_run d 87 42 [v0, .int x] (.int x :: st) σ τ := rr_iload_n dX10_faultOf_41 rfl
theorem r87_42 (d : Nat) (ls st : List Value) (σ : am_St) (τ : Int64) (i : Int32) (k : Nat) : am_run d 87 42 ls (.int i :: .ref k :: st) σ τ = am_ai false k i (fun j => am_run d 87 43 ls (.int (σ k j) :: st) σ τ) := rr_iald dX10_faultOf_42
theorem r87_43 (d : Nat) (ls st : List Value) (σ : am_St) (τ : Int64) (k : Nat) (a0 : Int32) (hk : am_kc k = 10) (hc : am_cats st ≤ 8) : am_run (d + 1) 87 43 ls (.int a0 :: .ref k :: st) σ τ = (am_call d 86 [.ref k, .int a0] σ τ).bind (fun r => am_run (d + 1) 87 46 ls (r.1.toList ++ st) r.2.1 r.2.2) := rr_invv [.int a0] dX10_faultOf_43 (by decide +kernel) (by decide) rfl (Nat.le_of_ble_eq_true rfl) hk hc
theorem r87_46 (d : Nat) (ls st : List Value) (σ : am_St) (τ : Int64) (x : Int32) : am_run d 87 46 ls (.int x :: st) σ τ = if x = 0 then am_run d 87 55 ls st σ τ else am_run d 87 49 ls st σ τ := (rr_if 55 dX10_faultOf_46 (by decide)).trans am_sel
theorem r87_49 (d : Nat) (st : List Value) (σ : am_St) (τ : Int64) (x : Int32) (v0 : Value) : am_run d 87 49 [v0, .int x] st σ τ = am_run d 87 52 [am_nl v0, .int (x + 1)] st σ τ := rr_iinc 1 _ dX10_faultOf_49 rfl (by decide) (by decide) (by first | rfl | (by_cases h : v0.category = 2 <;> simp [am_set1, am_nl, h]))
theorem r87_52 (d : Nat) (ls st : List Value) (σ : am_St) (τ : Int64) : am_run d 87 52 ls st σ τ = am_run d 87 28 ls st σ τ := rr_goto 28 dX10_faultOf_52 (by decide)
theorem r87_55 (d : Nat) (st : List Value) (σ : am_St) (τ : Int64) (x : Int32) (v0 : Value) : am_run d 87 55 [v0, .int x] st σ τ = am_run d 87 56 [v0, .int x] (.int x :: st) σ τ := rr_iload_n dX10_faultOf_55 rfl
theorem r87_56 (d : Nat) (ls : List Value) (σ : am_St) (τ : Int64) (x : Int32) : am_run d 87 56 ls [.int x] σ τ = some (some (.int x), σ, τ) := rr_iret dX10_faultOf_56 rfl
theorem dX10_fault_0 : decode (am_code 88) 0 = .ok (.aload_n 0, 1) := by decide +kernel
theorem dX10_fault_1 : decode (am_code 88) 1 = .ok (.invokevirtual 120, 3) := by decide +kernel
theorem dX10_fault_4 : decode (am_code 88) 4 = .ok (.ireturn, 1) := by decide +kernel
theorem r88_0 (d : Nat) (st : List Value) (σ : am_St) (τ : Int64) (x : Nat) : am_run d 88 0 [.ref x] st σ τ = am_run d 88 1 [.ref x] (.ref x :: st) σ τ := rr_aload_n dX10_fault_0 rfl
theorem r88_1 (d : Nat) (ls st : List Value) (σ : am_St) (τ : Int64) (k : Nat)  (hk : am_kc k = 10) (hc : am_cats st ≤ 8) : am_run (d + 1) 88 1 ls (.ref k :: st) σ τ = (am_call d 87 [.ref k] σ τ).bind (fun r => am_run (d + 1) 88 4 ls (r.1.toList ++ st) r.2.1 r.2.2) := rr_invv [] dX10_fault_1 (by decide +kernel) (by decide) rfl (Nat.le_of_ble_eq_true rfl) hk hc
theorem r88_4 (d : Nat) (ls : List Value) (σ : am_St) (τ : Int64) (x : Int32) : am_run d 88 4 ls [.int x] σ τ = some (some (.int x), σ, τ) := rr_iret dX10_fault_4 rfl
theorem dX10_law_0 : decode (am_code 89) 0 = .ok (.aload_n 0, 1) := by decide +kernel
theorem dX10_law_1 : decode (am_code 89) 1 = .ok (.invokevirtual 120, 3) := by decide +kernel
theorem dX10_law_4 : decode (am_code 89) 4 = .ok (.aload_n 0, 1) := by decide +kernel
theorem dX10_law_5 : decode (am_code 89) 5 = .ok (.getfield 98, 3) := by decide +kernel
theorem dX10_law_8 : decode (am_code 89) 8 = .ok (.if_icmp .lt 12, 3) := by decide +kernel
theorem dX10_law_11 : decode (am_code 89) 11 = .ok (.aload_n 0, 1) := by decide +kernel
theorem dX10_law_12 : decode (am_code 89) 12 = .ok (.getfield 101, 3) := by decide +kernel
theorem dX10_law_15 : decode (am_code 89) 15 = .ok (.iconst 2, 1) := by decide +kernel
theorem dX10_law_16 : decode (am_code 89) 16 = .ok (.irem, 1) := by decide +kernel
theorem dX10_law_17 : decode (am_code 89) 17 = .ok (.ifCond .ne 6, 3) := by decide +kernel
theorem dX10_law_20 : decode (am_code 89) 20 = .ok (.bipush (-103), 2) := by decide +kernel
theorem dX10_law_22 : decode (am_code 89) 22 = .ok (.ireturn, 1) := by decide +kernel
theorem dX10_law_23 : decode (am_code 89) 23 = .ok (.iconst 0, 1) := by decide +kernel
theorem dX10_law_24 : decode (am_code 89) 24 = .ok (.istore_n 1, 1) := by decide +kernel
theorem dX10_law_25 : decode (am_code 89) 25 = .ok (.iload_n 1, 1) := by decide +kernel
theorem dX10_law_26 : decode (am_code 89) 26 = .ok (.iconst 4, 1) := by decide +kernel
theorem dX10_law_27 : decode (am_code 89) 27 = .ok (.if_icmp .ge 21, 3) := by decide +kernel
theorem dX10_law_30 : decode (am_code 89) 30 = .ok (.aload_n 0, 1) := by decide +kernel
theorem dX10_law_31 : decode (am_code 89) 31 = .ok (.getfield 13, 3) := by decide +kernel
theorem dX10_law_34 : decode (am_code 89) 34 = .ok (.iload_n 1, 1) := by decide +kernel
theorem dX10_law_35 : decode (am_code 89) 35 = .ok (.aload_n 0, 1) := by decide +kernel
theorem dX10_law_36 : decode (am_code 89) 36 = .ok (.getfield 16, 3) := by decide +kernel
theorem dX10_law_39 : decode (am_code 89) 39 = .ok (.iload_n 1, 1) := by decide +kernel
theorem dX10_law_40 : decode (am_code 89) 40 = .ok (.iaload, 1) := by decide +kernel
theorem dX10_law_41 : decode (am_code 89) 41 = .ok (.iastore, 1) := by decide +kernel
theorem dX10_law_42 : decode (am_code 89) 42 = .ok (.iinc 1 1, 3) := by decide +kernel
theorem dX10_law_45 : decode (am_code 89) 45 = .ok (.goto (-20), 3) := by decide +kernel
theorem dX10_law_48 : decode (am_code 89) 48 = .ok (.aload_n 0, 1) := by decide +kernel
theorem dX10_law_49 : decode (am_code 89) 49 = .ok (.dup, 1) := by decide +kernel
theorem dX10_law_50 : decode (am_code 89) 50 = .ok (.getfield 124, 3) := by decide +kernel
theorem dX10_law_53 : decode (am_code 89) 53 = .ok (.iconst 1, 1) := by decide +kernel
theorem dX10_law_54 : decode (am_code 89) 54 = .ok (.iadd, 1) := by decide +kernel
theorem dX10_law_55 : decode (am_code 89) 55 = .ok (.putfield 124, 3) := by decide +kernel
theorem dX10_law_58 : decode (am_code 89) 58 = .ok (.aload_n 0, 1) := by decide +kernel
theorem dX10_law_59 : decode (am_code 89) 59 = .ok (.iconst 0, 1) := by decide +kernel
theorem dX10_law_60 : decode (am_code 89) 60 = .ok (.putfield 98, 3) := by decide +kernel
theorem dX10_law_63 : decode (am_code 89) 63 = .ok (.aload_n 0, 1) := by decide +kernel
theorem dX10_law_64 : decode (am_code 89) 64 = .ok (.getfield 124, 3) := by decide +kernel
theorem dX10_law_67 : decode (am_code 89) 67 = .ok (.ireturn, 1) := by decide +kernel
theorem r89_0 (d : Nat) (st : List Value) (σ : am_St) (τ : Int64) (x : Nat) (v1 : Value) : am_run d 89 0 [.ref x, v1] st σ τ = am_run d 89 1 [.ref x, v1] (.ref x :: st) σ τ := rr_aload_n dX10_law_0 rfl
theorem r89_1 (d : Nat) (ls st : List Value) (σ : am_St) (τ : Int64) (k : Nat)  (hk : am_kc k = 10) (hc : am_cats st ≤ 8) : am_run (d + 1) 89 1 ls (.ref k :: st) σ τ = (am_call d 87 [.ref k] σ τ).bind (fun r => am_run (d + 1) 89 4 ls (r.1.toList ++ st) r.2.1 r.2.2) := rr_invv [] dX10_law_1 (by decide +kernel) (by decide) rfl (Nat.le_of_ble_eq_true rfl) hk hc
theorem r89_4 (d : Nat) (st : List Value) (σ : am_St) (τ : Int64) (x : Nat) (v1 : Value) : am_run d 89 4 [.ref x, v1] st σ τ = am_run d 89 5 [.ref x, v1] (.ref x :: st) σ τ := rr_aload_n dX10_law_4 rfl
theorem r89_5 (d : Nat) (ls st : List Value) (σ : am_St) (τ : Int64) (k : Nat) : am_run d 89 5 ls (.ref k :: st) σ τ = am_gf k 10 1 σ τ (fun v => am_run d 89 8 ls (v :: st) σ τ) := rr_getf dX10_law_5 (by decide +kernel)
theorem r89_8 (d : Nat) (ls st : List Value) (σ : am_St) (τ : Int64) (x y : Int32) : am_run d 89 8 ls (.int y :: .int x :: st) σ τ = if x < y then am_run d 89 20 ls st σ τ else am_run d 89 11 ls st σ τ := (rr_icmp 20 dX10_law_8 (by decide)).trans am_sel
theorem r89_11 (d : Nat) (st : List Value) (σ : am_St) (τ : Int64) (x : Nat) (v1 : Value) : am_run d 89 11 [.ref x, v1] st σ τ = am_run d 89 12 [.ref x, v1] (.ref x :: st) σ τ := rr_aload_n dX10_law_11 rfl
theorem r89_12 (d : Nat) (ls st : List Value) (σ : am_St) (τ : Int64) (k : Nat) : am_run d 89 12 ls (.ref k :: st) σ τ = am_gf k 10 5 σ τ (fun v => am_run d 89 15 ls (v :: st) σ τ) := rr_getf dX10_law_12 (by decide +kernel)
theorem r89_15 (d : Nat) (ls st : List Value) (σ : am_St) (τ : Int64) : am_run d 89 15 ls st σ τ = am_run d 89 16 ls (.int 2 :: st) σ τ := rr_iconst 2 dX10_law_15 (by decide)
theorem r89_16 (d : Nat) (ls st : List Value) (σ : am_St) (τ : Int64) (x y : Int32) : am_run d 89 16 ls (.int y :: .int x :: st) σ τ = if y = 0 then none else am_run d 89 17 ls (.int (x - x / y * y) :: st) σ τ := rr_irem dX10_law_16
theorem r89_17 (d : Nat) (ls st : List Value) (σ : am_St) (τ : Int64) (x : Int32) : am_run d 89 17 ls (.int x :: st) σ τ = if x = 0 then am_run d 89 20 ls st σ τ else am_run d 89 23 ls st σ τ := (rr_if 23 dX10_law_17 (by decide)).trans am_seln
theorem r89_20 (d : Nat) (ls st : List Value) (σ : am_St) (τ : Int64) : am_run d 89 20 ls st σ τ = am_run d 89 22 ls (.int (-103) :: st) σ τ := rr_bipush (-103) dX10_law_20 (by decide)
theorem r89_22 (d : Nat) (ls : List Value) (σ : am_St) (τ : Int64) (x : Int32) : am_run d 89 22 ls [.int x] σ τ = some (some (.int x), σ, τ) := rr_iret dX10_law_22 rfl
theorem r89_23 (d : Nat) (ls st : List Value) (σ : am_St) (τ : Int64) : am_run d 89 23 ls st σ τ = am_run d 89 24 ls (.int 0 :: st) σ τ := rr_iconst 0 dX10_law_23 (by decide)
theorem r89_24 (d : Nat) (st : List Value) (σ : am_St) (τ : Int64) (x : Int32) (v0 v1 : Value) : am_run d 89 24 [v0, v1] (.int x :: st) σ τ = am_run d 89 25 [am_nl v0, .int x] st σ τ := rr_istore_n _ dX10_law_24 (by decide) (by first | rfl | (by_cases h : v0.category = 2 <;> simp [am_set1, am_nl, h]))
theorem r89_25 (d : Nat) (st : List Value) (σ : am_St) (τ : Int64) (x : Int32) (v0 : Value) : am_run d 89 25 [v0, .int x] st σ τ = am_run d 89 26 [v0, .int x] (.int x :: st) σ τ := rr_iload_n dX10_law_25 rfl
theorem r89_26 (d : Nat) (ls st : List Value) (σ : am_St) (τ : Int64) : am_run d 89 26 ls st σ τ = am_run d 89 27 ls (.int 4 :: st) σ τ := rr_iconst 4 dX10_law_26 (by decide)
theorem r89_27 (d : Nat) (ls st : List Value) (σ : am_St) (τ : Int64) (x y : Int32) : am_run d 89 27 ls (.int y :: .int x :: st) σ τ = if y ≤ x then am_run d 89 48 ls st σ τ else am_run d 89 30 ls st σ τ := (rr_icmp 48 dX10_law_27 (by decide)).trans am_sel
theorem r89_30 (d : Nat) (st : List Value) (σ : am_St) (τ : Int64) (x : Nat) (v1 : Value) : am_run d 89 30 [.ref x, v1] st σ τ = am_run d 89 31 [.ref x, v1] (.ref x :: st) σ τ := rr_aload_n dX10_law_30 rfl
theorem r89_31 (d : Nat) (ls st : List Value) (σ : am_St) (τ : Int64) (k : Nat) : am_run d 89 31 ls (.ref k :: st) σ τ = am_gf k 10 2 σ τ (fun v => am_run d 89 34 ls (v :: st) σ τ) := rr_getf dX10_law_31 (by decide +kernel)
theorem r89_34 (d : Nat) (st : List Value) (σ : am_St) (τ : Int64) (x : Int32) (v0 : Value) : am_run d 89 34 [v0, .int x] st σ τ = am_run d 89 35 [v0, .int x] (.int x :: st) σ τ := rr_iload_n dX10_law_34 rfl
theorem r89_35 (d : Nat) (st : List Value) (σ : am_St) (τ : Int64) (x : Nat) (v1 : Value) : am_run d 89 35 [.ref x, v1] st σ τ = am_run d 89 36 [.ref x, v1] (.ref x :: st) σ τ := rr_aload_n dX10_law_35 rfl
theorem r89_36 (d : Nat) (ls st : List Value) (σ : am_St) (τ : Int64) (k : Nat) : am_run d 89 36 ls (.ref k :: st) σ τ = am_gf k 10 3 σ τ (fun v => am_run d 89 39 ls (v :: st) σ τ) := rr_getf dX10_law_36 (by decide +kernel)
theorem r89_39 (d : Nat) (st : List Value) (σ : am_St) (τ : Int64) (x : Int32) (v0 : Value) : am_run d 89 39 [v0, .int x] st σ τ = am_run d 89 40 [v0, .int x] (.int x :: st) σ τ := rr_iload_n dX10_law_39 rfl
theorem r89_40 (d : Nat) (ls st : List Value) (σ : am_St) (τ : Int64) (i : Int32) (k : Nat) : am_run d 89 40 ls (.int i :: .ref k :: st) σ τ = am_ai false k i (fun j => am_run d 89 41 ls (.int (σ k j) :: st) σ τ) := rr_iald dX10_law_40
theorem r89_41 (d : Nat) (ls st : List Value) (σ : am_St) (τ : Int64) (x i : Int32) (k : Nat) : am_run d 89 41 ls (.int x :: .int i :: .ref k :: st) σ τ = am_ai false k i (fun j => am_run d 89 42 ls st (am_up σ k j x) τ) := rr_iast dX10_law_41
theorem r89_42 (d : Nat) (st : List Value) (σ : am_St) (τ : Int64) (x : Int32) (v0 : Value) : am_run d 89 42 [v0, .int x] st σ τ = am_run d 89 45 [am_nl v0, .int (x + 1)] st σ τ := rr_iinc 1 _ dX10_law_42 rfl (by decide) (by decide) (by first | rfl | (by_cases h : v0.category = 2 <;> simp [am_set1, am_nl, h]))
theorem r89_45 (d : Nat) (ls st : List Value) (σ : am_St) (τ : Int64) : am_run d 89 45 ls st σ τ = am_run d 89 25 ls st σ τ := rr_goto 25 dX10_law_45 (by decide)
theorem r89_48 (d : Nat) (st : List Value) (σ : am_St) (τ : Int64) (x : Nat) (v1 : Value) : am_run d 89 48 [.ref x, v1] st σ τ = am_run d 89 49 [.ref x, v1] (.ref x :: st) σ τ := rr_aload_n dX10_law_48 rfl
theorem r89_49 (d : Nat) (ls st : List Value) (σ : am_St) (τ : Int64) (x : Nat) : am_run d 89 49 ls (.ref x :: st) σ τ = am_run d 89 50 ls (.ref x :: .ref x :: st) σ τ := rr_dup_r dX10_law_49
theorem r89_49i (d : Nat) (ls st : List Value) (σ : am_St) (τ : Int64) (x : Int32) : am_run d 89 49 ls (.int x :: st) σ τ = am_run d 89 50 ls (.int x :: .int x :: st) σ τ := rr_dup_i dX10_law_49
theorem r89_50 (d : Nat) (ls st : List Value) (σ : am_St) (τ : Int64) (k : Nat) : am_run d 89 50 ls (.ref k :: st) σ τ = am_gf k 10 4 σ τ (fun v => am_run d 89 53 ls (v :: st) σ τ) := rr_getf dX10_law_50 (by decide +kernel)
theorem r89_53 (d : Nat) (ls st : List Value) (σ : am_St) (τ : Int64) : am_run d 89 53 ls st σ τ = am_run d 89 54 ls (.int 1 :: st) σ τ := rr_iconst 1 dX10_law_53 (by decide)
theorem r89_54 (d : Nat) (ls st : List Value) (σ : am_St) (τ : Int64) (x y : Int32) : am_run d 89 54 ls (.int y :: .int x :: st) σ τ = am_run d 89 55 ls (.int (x + y) :: st) σ τ := rr_iadd dX10_law_54
theorem r89_55 (d : Nat) (ls st : List Value) (σ : am_St) (τ : Int64) (k : Nat) (x : Int32) : am_run d 89 55 ls (.int x :: .ref k :: st) σ τ = am_pf k 10 4 x σ (fun σ => am_run d 89 58 ls st σ τ) := rr_putf dX10_law_55 (by decide +kernel)
theorem r89_58 (d : Nat) (st : List Value) (σ : am_St) (τ : Int64) (x : Nat) (v1 : Value) : am_run d 89 58 [.ref x, v1] st σ τ = am_run d 89 59 [.ref x, v1] (.ref x :: st) σ τ := rr_aload_n dX10_law_58 rfl
theorem r89_59 (d : Nat) (ls st : List Value) (σ : am_St) (τ : Int64) : am_run d 89 59 ls st σ τ = am_run d 89 60 ls (.int 0 :: st) σ τ := rr_iconst 0 dX10_law_59 (by decide)
theorem r89_60 (d : Nat) (ls st : List Value) (σ : am_St) (τ : Int64) (k : Nat) (x : Int32) : am_run d 89 60 ls (.int x :: .ref k :: st) σ τ = am_pf k 10 1 x σ (fun σ => am_run d 89 63 ls st σ τ) := rr_putf dX10_law_60 (by decide +kernel)
theorem r89_63 (d : Nat) (st : List Value) (σ : am_St) (τ : Int64) (x : Nat) (v1 : Value) : am_run d 89 63 [.ref x, v1] st σ τ = am_run d 89 64 [.ref x, v1] (.ref x :: st) σ τ := rr_aload_n dX10_law_63 rfl
theorem r89_64 (d : Nat) (ls st : List Value) (σ : am_St) (τ : Int64) (k : Nat) : am_run d 89 64 ls (.ref k :: st) σ τ = am_gf k 10 4 σ τ (fun v => am_run d 89 67 ls (v :: st) σ τ) := rr_getf dX10_law_64 (by decide +kernel)
theorem r89_67 (d : Nat) (ls : List Value) (σ : am_St) (τ : Int64) (x : Int32) : am_run d 89 67 ls [.int x] σ τ = some (some (.int x), σ, τ) := rr_iret dX10_law_67 rfl
theorem dX10_lawTold_0 : decode (am_code 90) 0 = .ok (.iload_n 1, 1) := by decide +kernel
theorem dX10_lawTold_1 : decode (am_code 90) 1 = .ok (.i2l, 1) := by decide +kernel
theorem dX10_lawTold_2 : decode (am_code 90) 2 = .ok (.lconst 0, 1) := by decide +kernel
theorem dX10_lawTold_3 : decode (am_code 90) 3 = .ok (.ldc2_w 127, 3) := by decide +kernel
theorem dX10_lawTold_6 : decode (am_code 90) 6 = .ok (.invokestatic 112, 3) := by decide +kernel
theorem dX10_lawTold_9 : decode (am_code 90) 9 = .ok (.ifCond .eq 12, 3) := by decide +kernel
theorem dX10_lawTold_12 : decode (am_code 90) 12 = .ok (.aload_n 0, 1) := by decide +kernel
theorem dX10_lawTold_13 : decode (am_code 90) 13 = .ok (.getfield 13, 3) := by decide +kernel
theorem dX10_lawTold_16 : decode (am_code 90) 16 = .ok (.iload_n 1, 1) := by decide +kernel
theorem dX10_lawTold_17 : decode (am_code 90) 17 = .ok (.iaload, 1) := by decide +kernel
theorem dX10_lawTold_18 : decode (am_code 90) 18 = .ok (.goto 5, 3) := by decide +kernel
theorem dX10_lawTold_21 : decode (am_code 90) 21 = .ok (.bipush (-102), 2) := by decide +kernel
theorem dX10_lawTold_23 : decode (am_code 90) 23 = .ok (.ireturn, 1) := by decide +kernel
theorem r90_0 (d : Nat) (st : List Value) (σ : am_St) (τ : Int64) (x : Int32) (v0 : Value) : am_run d 90 0 [v0, .int x] st σ τ = am_run d 90 1 [v0, .int x] (.int x :: st) σ τ := rr_iload_n dX10_lawTold_0 rfl
theorem r90_1 (d : Nat) (ls st : List Value) (σ : am_St) (τ : Int64) (x : Int32) : am_run d 90 1 ls (.int x :: st) σ τ = am_run d 90 2 ls (.long x.toInt64 :: st) σ τ := rr_i2l dX10_lawTold_1
theorem r90_2 (d : Nat) (ls st : List Value) (σ : am_St) (τ : Int64) : am_run d 90 2 ls st σ τ = am_run d 90 3 ls (.long 0 :: st) σ τ := rr_lconst 0 dX10_lawTold_2 (by decide)
theorem r90_3 (d : Nat) (ls st : List Value) (σ : am_St) (τ : Int64) : am_run d 90 3 ls st σ τ = am_run d 90 6 ls (.long 3 :: st) σ τ := rr_ldc2 3 dX10_lawTold_3 (by decide +kernel)
theorem r90_6 (d : Nat) (ls st : List Value) (σ : am_St) (τ : Int64) (a0 : Int64) (a1 : Int64) (a2 : Int64) (hc : am_cats st ≤ 8) : am_run (d + 1) 90 6 ls (.long a2 :: .long a1 :: .long a0 :: st) σ τ = (am_call d 82 [.long a0, .long a1, .long a2] σ τ).bind (fun r => am_run (d + 1) 90 9 ls (r.1.toList ++ st) r.2.1 r.2.2) := rr_invs [.long a0, .long a1, .long a2] dX10_lawTold_6 (by decide +kernel) (by decide +kernel) (by decide) rfl (Nat.le_of_ble_eq_true rfl) hc
theorem r90_9 (d : Nat) (ls st : List Value) (σ : am_St) (τ : Int64) (x : Int32) : am_run d 90 9 ls (.int x :: st) σ τ = if x = 0 then am_run d 90 21 ls st σ τ else am_run d 90 12 ls st σ τ := (rr_if 21 dX10_lawTold_9 (by decide)).trans am_sel
theorem r90_12 (d : Nat) (st : List Value) (σ : am_St) (τ : Int64) (x : Nat) (v1 : Value) : am_run d 90 12 [.ref x, v1] st σ τ = am_run d 90 13 [.ref x, v1] (.ref x :: st) σ τ := rr_aload_n dX10_lawTold_12 rfl
theorem r90_13 (d : Nat) (ls st : List Value) (σ : am_St) (τ : Int64) (k : Nat) : am_run d 90 13 ls (.ref k :: st) σ τ = am_gf k 10 2 σ τ (fun v => am_run d 90 16 ls (v :: st) σ τ) := rr_getf dX10_lawTold_13 (by decide +kernel)
theorem r90_16 (d : Nat) (st : List Value) (σ : am_St) (τ : Int64) (x : Int32) (v0 : Value) : am_run d 90 16 [v0, .int x] st σ τ = am_run d 90 17 [v0, .int x] (.int x :: st) σ τ := rr_iload_n dX10_lawTold_16 rfl
theorem r90_17 (d : Nat) (ls st : List Value) (σ : am_St) (τ : Int64) (i : Int32) (k : Nat) : am_run d 90 17 ls (.int i :: .ref k :: st) σ τ = am_ai false k i (fun j => am_run d 90 18 ls (.int (σ k j) :: st) σ τ) := rr_iald dX10_lawTold_17
theorem r90_18 (d : Nat) (ls st : List Value) (σ : am_St) (τ : Int64) : am_run d 90 18 ls st σ τ = am_run d 90 23 ls st σ τ := rr_goto 23 dX10_lawTold_18 (by decide)
theorem r90_21 (d : Nat) (ls st : List Value) (σ : am_St) (τ : Int64) : am_run d 90 21 ls st σ τ = am_run d 90 23 ls (.int (-102) :: st) σ τ := rr_bipush (-102) dX10_lawTold_21 (by decide)
theorem r90_23 (d : Nat) (ls : List Value) (σ : am_St) (τ : Int64) (x : Int32) : am_run d 90 23 ls [.int x] σ τ = some (some (.int x), σ, τ) := rr_iret dX10_lawTold_23 rfl
theorem dX10_isPerson_0 : decode (am_code 91) 0 = .ok (.iload_n 1, 1) := by decide +kernel
theorem dX10_isPerson_1 : decode (am_code 91) 1 = .ok (.i2l, 1) := by decide +kernel
theorem dX10_isPerson_2 : decode (am_code 91) 2 = .ok (.lconst 0, 1) := by decide +kernel
theorem dX10_isPerson_3 : decode (am_code 91) 3 = .ok (.aload_n 0, 1) := by decide +kernel
theorem dX10_isPerson_4 : decode (am_code 91) 4 = .ok (.getfield 129, 3) := by decide +kernel
theorem dX10_isPerson_7 : decode (am_code 91) 7 = .ok (.iconst 1, 1) := by decide +kernel
theorem dX10_isPerson_8 : decode (am_code 91) 8 = .ok (.isub, 1) := by decide +kernel
theorem dX10_isPerson_9 : decode (am_code 91) 9 = .ok (.i2l, 1) := by decide +kernel
theorem dX10_isPerson_10 : decode (am_code 91) 10 = .ok (.invokestatic 112, 3) := by decide +kernel
theorem dX10_isPerson_13 : decode (am_code 91) 13 = .ok (.ireturn, 1) := by decide +kernel
theorem r91_0 (d : Nat) (st : List Value) (σ : am_St) (τ : Int64) (x : Int32) (v0 : Value) : am_run d 91 0 [v0, .int x] st σ τ = am_run d 91 1 [v0, .int x] (.int x :: st) σ τ := rr_iload_n dX10_isPerson_0 rfl
theorem r91_1 (d : Nat) (ls st : List Value) (σ : am_St) (τ : Int64) (x : Int32) : am_run d 91 1 ls (.int x :: st) σ τ = am_run d 91 2 ls (.long x.toInt64 :: st) σ τ := rr_i2l dX10_isPerson_1
theorem r91_2 (d : Nat) (ls st : List Value) (σ : am_St) (τ : Int64) : am_run d 91 2 ls st σ τ = am_run d 91 3 ls (.long 0 :: st) σ τ := rr_lconst 0 dX10_isPerson_2 (by decide)
theorem r91_3 (d : Nat) (st : List Value) (σ : am_St) (τ : Int64) (x : Nat) (v1 : Value) : am_run d 91 3 [.ref x, v1] st σ τ = am_run d 91 4 [.ref x, v1] (.ref x :: st) σ τ := rr_aload_n dX10_isPerson_3 rfl
theorem r91_4 (d : Nat) (ls st : List Value) (σ : am_St) (τ : Int64) (k : Nat) : am_run d 91 4 ls (.ref k :: st) σ τ = am_gf k 10 6 σ τ (fun v => am_run d 91 7 ls (v :: st) σ τ) := rr_getf dX10_isPerson_4 (by decide +kernel)
theorem r91_7 (d : Nat) (ls st : List Value) (σ : am_St) (τ : Int64) : am_run d 91 7 ls st σ τ = am_run d 91 8 ls (.int 1 :: st) σ τ := rr_iconst 1 dX10_isPerson_7 (by decide)
theorem r91_8 (d : Nat) (ls st : List Value) (σ : am_St) (τ : Int64) (x y : Int32) : am_run d 91 8 ls (.int y :: .int x :: st) σ τ = am_run d 91 9 ls (.int (x - y) :: st) σ τ := rr_isub dX10_isPerson_8
theorem r91_9 (d : Nat) (ls st : List Value) (σ : am_St) (τ : Int64) (x : Int32) : am_run d 91 9 ls (.int x :: st) σ τ = am_run d 91 10 ls (.long x.toInt64 :: st) σ τ := rr_i2l dX10_isPerson_9
theorem r91_10 (d : Nat) (ls st : List Value) (σ : am_St) (τ : Int64) (a0 : Int64) (a1 : Int64) (a2 : Int64) (hc : am_cats st ≤ 8) : am_run (d + 1) 91 10 ls (.long a2 :: .long a1 :: .long a0 :: st) σ τ = (am_call d 82 [.long a0, .long a1, .long a2] σ τ).bind (fun r => am_run (d + 1) 91 13 ls (r.1.toList ++ st) r.2.1 r.2.2) := rr_invs [.long a0, .long a1, .long a2] dX10_isPerson_10 (by decide +kernel) (by decide +kernel) (by decide) rfl (Nat.le_of_ble_eq_true rfl) hc
theorem r91_13 (d : Nat) (ls : List Value) (σ : am_St) (τ : Int64) (x : Int32) (hx : x = 0 ∨ x = 1) : am_run d 91 13 ls [.int x] σ τ = some (some (.int x), σ, τ) := rr_zret dX10_isPerson_13 rfl hx
theorem dX10_isAlone_0 : decode (am_code 92) 0 = .ok (.iload_n 0, 1) := by decide +kernel
theorem dX10_isAlone_1 : decode (am_code 92) 1 = .ok (.iconst 1, 1) := by decide +kernel
theorem dX10_isAlone_2 : decode (am_code 92) 2 = .ok (.if_icmp .eq 8, 3) := by decide +kernel
theorem dX10_isAlone_5 : decode (am_code 92) 5 = .ok (.iload_n 0, 1) := by decide +kernel
theorem dX10_isAlone_6 : decode (am_code 92) 6 = .ok (.iconst 3, 1) := by decide +kernel
theorem dX10_isAlone_7 : decode (am_code 92) 7 = .ok (.if_icmp .ne 7, 3) := by decide +kernel
theorem dX10_isAlone_10 : decode (am_code 92) 10 = .ok (.iconst 1, 1) := by decide +kernel
theorem dX10_isAlone_11 : decode (am_code 92) 11 = .ok (.goto 4, 3) := by decide +kernel
theorem dX10_isAlone_14 : decode (am_code 92) 14 = .ok (.iconst 0, 1) := by decide +kernel
theorem dX10_isAlone_15 : decode (am_code 92) 15 = .ok (.ireturn, 1) := by decide +kernel
theorem r92_0 (d : Nat) (st : List Value) (σ : am_St) (τ : Int64) (x : Int32) : am_run d 92 0 [.int x] st σ τ = am_run d 92 1 [.int x] (.int x :: st) σ τ := rr_iload_n dX10_isAlone_0 rfl
theorem r92_1 (d : Nat) (ls st : List Value) (σ : am_St) (τ : Int64) : am_run d 92 1 ls st σ τ = am_run d 92 2 ls (.int 1 :: st) σ τ := rr_iconst 1 dX10_isAlone_1 (by decide)
theorem r92_2 (d : Nat) (ls st : List Value) (σ : am_St) (τ : Int64) (x y : Int32) : am_run d 92 2 ls (.int y :: .int x :: st) σ τ = if x = y then am_run d 92 10 ls st σ τ else am_run d 92 5 ls st σ τ := (rr_icmp 10 dX10_isAlone_2 (by decide)).trans am_sel
theorem r92_5 (d : Nat) (st : List Value) (σ : am_St) (τ : Int64) (x : Int32) : am_run d 92 5 [.int x] st σ τ = am_run d 92 6 [.int x] (.int x :: st) σ τ := rr_iload_n dX10_isAlone_5 rfl
theorem r92_6 (d : Nat) (ls st : List Value) (σ : am_St) (τ : Int64) : am_run d 92 6 ls st σ τ = am_run d 92 7 ls (.int 3 :: st) σ τ := rr_iconst 3 dX10_isAlone_6 (by decide)
theorem r92_7 (d : Nat) (ls st : List Value) (σ : am_St) (τ : Int64) (x y : Int32) : am_run d 92 7 ls (.int y :: .int x :: st) σ τ = if x = y then am_run d 92 10 ls st σ τ else am_run d 92 14 ls st σ τ := (rr_icmp 14 dX10_isAlone_7 (by decide)).trans am_seln
theorem r92_10 (d : Nat) (ls st : List Value) (σ : am_St) (τ : Int64) : am_run d 92 10 ls st σ τ = am_run d 92 11 ls (.int 1 :: st) σ τ := rr_iconst 1 dX10_isAlone_10 (by decide)
theorem r92_11 (d : Nat) (ls st : List Value) (σ : am_St) (τ : Int64) : am_run d 92 11 ls st σ τ = am_run d 92 15 ls st σ τ := rr_goto 15 dX10_isAlone_11 (by decide)
theorem r92_14 (d : Nat) (ls st : List Value) (σ : am_St) (τ : Int64) : am_run d 92 14 ls st σ τ = am_run d 92 15 ls (.int 0 :: st) σ τ := rr_iconst 0 dX10_isAlone_14 (by decide)
theorem r92_15 (d : Nat) (ls : List Value) (σ : am_St) (τ : Int64) (x : Int32) (hx : x = 0 ∨ x = 1) : am_run d 92 15 ls [.int x] σ τ = some (some (.int x), σ, τ) := rr_zret dX10_isAlone_15 rfl hx
theorem dX10_leastMan_0 : decode (am_code 93) 0 = .ok (.iconst 0, 1) := by decide +kernel
theorem dX10_leastMan_1 : decode (am_code 93) 1 = .ok (.istore_n 1, 1) := by decide +kernel
theorem dX10_leastMan_2 : decode (am_code 93) 2 = .ok (.iload_n 1, 1) := by decide +kernel
theorem dX10_leastMan_3 : decode (am_code 93) 3 = .ok (.aload_n 0, 1) := by decide +kernel
theorem dX10_leastMan_4 : decode (am_code 93) 4 = .ok (.getfield 129, 3) := by decide +kernel
theorem dX10_leastMan_7 : decode (am_code 93) 7 = .ok (.if_icmp .ge 20, 3) := by decide +kernel
theorem dX10_leastMan_10 : decode (am_code 93) 10 = .ok (.aload_n 0, 1) := by decide +kernel
theorem dX10_leastMan_11 : decode (am_code 93) 11 = .ok (.getfield 22, 3) := by decide +kernel
theorem dX10_leastMan_14 : decode (am_code 93) 14 = .ok (.iload_n 1, 1) := by decide +kernel
theorem dX10_leastMan_15 : decode (am_code 93) 15 = .ok (.iaload, 1) := by decide +kernel
theorem dX10_leastMan_16 : decode (am_code 93) 16 = .ok (.ifCond .ne 5, 3) := by decide +kernel
theorem dX10_leastMan_19 : decode (am_code 93) 19 = .ok (.iload_n 1, 1) := by decide +kernel
theorem dX10_leastMan_20 : decode (am_code 93) 20 = .ok (.ireturn, 1) := by decide +kernel
theorem dX10_leastMan_21 : decode (am_code 93) 21 = .ok (.iinc 1 1, 3) := by decide +kernel
theorem dX10_leastMan_24 : decode (am_code 93) 24 = .ok (.goto (-22), 3) := by decide +kernel
theorem dX10_leastMan_27 : decode (am_code 93) 27 = .ok (.iconst (-1), 1) := by decide +kernel
theorem dX10_leastMan_28 : decode (am_code 93) 28 = .ok (.ireturn, 1) := by decide +kernel
theorem r93_0 (d : Nat) (ls st : List Value) (σ : am_St) (τ : Int64) : am_run d 93 0 ls st σ τ = am_run d 93 1 ls (.int 0 :: st) σ τ := rr_iconst 0 dX10_leastMan_0 (by decide)
theorem r93_1 (d : Nat) (st : List Value) (σ : am_St) (τ : Int64) (x : Int32) (v0 v1 : Value) : am_run d 93 1 [v0, v1] (.int x :: st) σ τ = am_run d 93 2 [am_nl v0, .int x] st σ τ := rr_istore_n _ dX10_leastMan_1 (by decide) (by first | rfl | (by_cases h : v0.category = 2 <;> simp [am_set1, am_nl, h]))
theorem r93_2 (d : Nat) (st : List Value) (σ : am_St) (τ : Int64) (x : Int32) (v0 : Value) : am_run d 93 2 [v0, .int x] st σ τ = am_run d 93 3 [v0, .int x] (.int x :: st) σ τ := rr_iload_n dX10_leastMan_2 rfl
theorem r93_3 (d : Nat) (st : List Value) (σ : am_St) (τ : Int64) (x : Nat) (v1 : Value) : am_run d 93 3 [.ref x, v1] st σ τ = am_run d 93 4 [.ref x, v1] (.ref x :: st) σ τ := rr_aload_n dX10_leastMan_3 rfl
theorem r93_4 (d : Nat) (ls st : List Value) (σ : am_St) (τ : Int64) (k : Nat) : am_run d 93 4 ls (.ref k :: st) σ τ = am_gf k 10 6 σ τ (fun v => am_run d 93 7 ls (v :: st) σ τ) := rr_getf dX10_leastMan_4 (by decide +kernel)
theorem r93_7 (d : Nat) (ls st : List Value) (σ : am_St) (τ : Int64) (x y : Int32) : am_run d 93 7 ls (.int y :: .int x :: st) σ τ = if y ≤ x then am_run d 93 27 ls st σ τ else am_run d 93 10 ls st σ τ := (rr_icmp 27 dX10_leastMan_7 (by decide)).trans am_sel
theorem r93_10 (d : Nat) (st : List Value) (σ : am_St) (τ : Int64) (x : Nat) (v1 : Value) : am_run d 93 10 [.ref x, v1] st σ τ = am_run d 93 11 [.ref x, v1] (.ref x :: st) σ τ := rr_aload_n dX10_leastMan_10 rfl
theorem r93_11 (d : Nat) (ls st : List Value) (σ : am_St) (τ : Int64) (k : Nat) : am_run d 93 11 ls (.ref k :: st) σ τ = am_gf k 10 9 σ τ (fun v => am_run d 93 14 ls (v :: st) σ τ) := rr_getf dX10_leastMan_11 (by decide +kernel)
theorem r93_14 (d : Nat) (st : List Value) (σ : am_St) (τ : Int64) (x : Int32) (v0 : Value) : am_run d 93 14 [v0, .int x] st σ τ = am_run d 93 15 [v0, .int x] (.int x :: st) σ τ := rr_iload_n dX10_leastMan_14 rfl
theorem r93_15 (d : Nat) (ls st : List Value) (σ : am_St) (τ : Int64) (i : Int32) (k : Nat) : am_run d 93 15 ls (.int i :: .ref k :: st) σ τ = am_ai false k i (fun j => am_run d 93 16 ls (.int (σ k j) :: st) σ τ) := rr_iald dX10_leastMan_15
theorem r93_16 (d : Nat) (ls st : List Value) (σ : am_St) (τ : Int64) (x : Int32) : am_run d 93 16 ls (.int x :: st) σ τ = if x = 0 then am_run d 93 19 ls st σ τ else am_run d 93 21 ls st σ τ := (rr_if 21 dX10_leastMan_16 (by decide)).trans am_seln
theorem r93_19 (d : Nat) (st : List Value) (σ : am_St) (τ : Int64) (x : Int32) (v0 : Value) : am_run d 93 19 [v0, .int x] st σ τ = am_run d 93 20 [v0, .int x] (.int x :: st) σ τ := rr_iload_n dX10_leastMan_19 rfl
theorem r93_20 (d : Nat) (ls : List Value) (σ : am_St) (τ : Int64) (x : Int32) : am_run d 93 20 ls [.int x] σ τ = some (some (.int x), σ, τ) := rr_iret dX10_leastMan_20 rfl
theorem r93_21 (d : Nat) (st : List Value) (σ : am_St) (τ : Int64) (x : Int32) (v0 : Value) : am_run d 93 21 [v0, .int x] st σ τ = am_run d 93 24 [am_nl v0, .int (x + 1)] st σ τ := rr_iinc 1 _ dX10_leastMan_21 rfl (by decide) (by decide) (by first | rfl | (by_cases h : v0.category = 2 <;> simp [am_set1, am_nl, h]))
theorem r93_24 (d : Nat) (ls st : List Value) (σ : am_St) (τ : Int64) : am_run d 93 24 ls st σ τ = am_run d 93 2 ls st σ τ := rr_goto 2 dX10_leastMan_24 (by decide)
theorem r93_27 (d : Nat) (ls st : List Value) (σ : am_St) (τ : Int64) : am_run d 93 27 ls st σ τ = am_run d 93 28 ls (.int (-1) :: st) σ τ := rr_iconst (-1) dX10_leastMan_27 (by decide)
theorem r93_28 (d : Nat) (ls : List Value) (σ : am_St) (τ : Int64) (x : Int32) : am_run d 93 28 ls [.int x] σ τ = some (some (.int x), σ, τ) := rr_iret dX10_leastMan_28 rfl
theorem dX10_areParents_0 : decode (am_code 94) 0 = .ok (.iload_n 1, 1) := by decide +kernel
theorem dX10_areParents_1 : decode (am_code 94) 1 = .ok (.invokestatic 132, 3) := by decide +kernel
theorem dX10_areParents_4 : decode (am_code 94) 4 = .ok (.ifCond .eq 19, 3) := by decide +kernel
theorem dX10_areParents_7 : decode (am_code 94) 7 = .ok (.iload_n 2, 1) := by decide +kernel
theorem dX10_areParents_8 : decode (am_code 94) 8 = .ok (.iconst (-1), 1) := by decide +kernel
theorem dX10_areParents_9 : decode (am_code 94) 9 = .ok (.if_icmp .ne 12, 3) := by decide +kernel
theorem dX10_areParents_12 : decode (am_code 94) 12 = .ok (.iload_n 3, 1) := by decide +kernel
theorem dX10_areParents_13 : decode (am_code 94) 13 = .ok (.iconst (-1), 1) := by decide +kernel
theorem dX10_areParents_14 : decode (am_code 94) 14 = .ok (.if_icmp .ne 7, 3) := by decide +kernel
theorem dX10_areParents_17 : decode (am_code 94) 17 = .ok (.iconst 1, 1) := by decide +kernel
theorem dX10_areParents_18 : decode (am_code 94) 18 = .ok (.goto 4, 3) := by decide +kernel
theorem dX10_areParents_21 : decode (am_code 94) 21 = .ok (.iconst 0, 1) := by decide +kernel
theorem dX10_areParents_22 : decode (am_code 94) 22 = .ok (.ireturn, 1) := by decide +kernel
theorem dX10_areParents_23 : decode (am_code 94) 23 = .ok (.iload_n 2, 1) := by decide +kernel
theorem dX10_areParents_24 : decode (am_code 94) 24 = .ok (.bipush (-2), 2) := by decide +kernel
theorem dX10_areParents_26 : decode (am_code 94) 26 = .ok (.if_icmp .ne 19, 3) := by decide +kernel
theorem dX10_areParents_29 : decode (am_code 94) 29 = .ok (.aload_n 0, 1) := by decide +kernel
theorem dX10_areParents_30 : decode (am_code 94) 30 = .ok (.invokevirtual 135, 3) := by decide +kernel
theorem dX10_areParents_33 : decode (am_code 94) 33 = .ok (.iconst (-1), 1) := by decide +kernel
theorem dX10_areParents_34 : decode (am_code 94) 34 = .ok (.if_icmp .eq 7, 3) := by decide +kernel
theorem dX10_areParents_37 : decode (am_code 94) 37 = .ok (.iconst 1, 1) := by decide +kernel
theorem dX10_areParents_38 : decode (am_code 94) 38 = .ok (.goto 29, 3) := by decide +kernel
theorem dX10_areParents_41 : decode (am_code 94) 41 = .ok (.iconst 0, 1) := by decide +kernel
theorem dX10_areParents_42 : decode (am_code 94) 42 = .ok (.goto 25, 3) := by decide +kernel
theorem dX10_areParents_45 : decode (am_code 94) 45 = .ok (.aload_n 0, 1) := by decide +kernel
theorem dX10_areParents_46 : decode (am_code 94) 46 = .ok (.iload_n 2, 1) := by decide +kernel
theorem dX10_areParents_47 : decode (am_code 94) 47 = .ok (.invokevirtual 138, 3) := by decide +kernel
theorem dX10_areParents_50 : decode (am_code 94) 50 = .ok (.ifCond .eq 16, 3) := by decide +kernel
theorem dX10_areParents_53 : decode (am_code 94) 53 = .ok (.aload_n 0, 1) := by decide +kernel
theorem dX10_areParents_54 : decode (am_code 94) 54 = .ok (.getfield 22, 3) := by decide +kernel
theorem dX10_areParents_57 : decode (am_code 94) 57 = .ok (.iload_n 2, 1) := by decide +kernel
theorem dX10_areParents_58 : decode (am_code 94) 58 = .ok (.iaload, 1) := by decide +kernel
theorem dX10_areParents_59 : decode (am_code 94) 59 = .ok (.ifCond .ne 7, 3) := by decide +kernel
theorem dX10_areParents_62 : decode (am_code 94) 62 = .ok (.iconst 1, 1) := by decide +kernel
theorem dX10_areParents_63 : decode (am_code 94) 63 = .ok (.goto 4, 3) := by decide +kernel
theorem dX10_areParents_66 : decode (am_code 94) 66 = .ok (.iconst 0, 1) := by decide +kernel
theorem dX10_areParents_67 : decode (am_code 94) 67 = .ok (.istore 4, 2) := by decide +kernel
theorem dX10_areParents_69 : decode (am_code 94) 69 = .ok (.iload 4, 2) := by decide +kernel
theorem dX10_areParents_71 : decode (am_code 94) 71 = .ok (.ifCond .eq 25, 3) := by decide +kernel
theorem dX10_areParents_74 : decode (am_code 94) 74 = .ok (.aload_n 0, 1) := by decide +kernel
theorem dX10_areParents_75 : decode (am_code 94) 75 = .ok (.iload_n 3, 1) := by decide +kernel
theorem dX10_areParents_76 : decode (am_code 94) 76 = .ok (.invokevirtual 138, 3) := by decide +kernel
theorem dX10_areParents_79 : decode (am_code 94) 79 = .ok (.ifCond .eq 17, 3) := by decide +kernel
theorem dX10_areParents_82 : decode (am_code 94) 82 = .ok (.aload_n 0, 1) := by decide +kernel
theorem dX10_areParents_83 : decode (am_code 94) 83 = .ok (.getfield 22, 3) := by decide +kernel
theorem dX10_areParents_86 : decode (am_code 94) 86 = .ok (.iload_n 3, 1) := by decide +kernel
theorem dX10_areParents_87 : decode (am_code 94) 87 = .ok (.iaload, 1) := by decide +kernel
theorem dX10_areParents_88 : decode (am_code 94) 88 = .ok (.iconst 1, 1) := by decide +kernel
theorem dX10_areParents_89 : decode (am_code 94) 89 = .ok (.if_icmp .ne 7, 3) := by decide +kernel
theorem dX10_areParents_92 : decode (am_code 94) 92 = .ok (.iconst 1, 1) := by decide +kernel
theorem dX10_areParents_93 : decode (am_code 94) 93 = .ok (.goto 4, 3) := by decide +kernel
theorem dX10_areParents_96 : decode (am_code 94) 96 = .ok (.iconst 0, 1) := by decide +kernel
theorem dX10_areParents_97 : decode (am_code 94) 97 = .ok (.ireturn, 1) := by decide +kernel
theorem r94_0 (d : Nat) (st : List Value) (σ : am_St) (τ : Int64) (x : Int32) (v0 v2 v3 v4 : Value) : am_run d 94 0 [v0, .int x, v2, v3, v4] st σ τ = am_run d 94 1 [v0, .int x, v2, v3, v4] (.int x :: st) σ τ := rr_iload_n dX10_areParents_0 rfl
theorem r94_1 (d : Nat) (ls st : List Value) (σ : am_St) (τ : Int64) (a0 : Int32) (hc : am_cats st ≤ 8) : am_run (d + 1) 94 1 ls (.int a0 :: st) σ τ = (am_call d 92 [.int a0] σ τ).bind (fun r => am_run (d + 1) 94 4 ls (r.1.toList ++ st) r.2.1 r.2.2) := rr_invs [.int a0] dX10_areParents_1 (by decide +kernel) (by decide +kernel) (by decide) rfl (Nat.le_of_ble_eq_true rfl) hc
theorem r94_4 (d : Nat) (ls st : List Value) (σ : am_St) (τ : Int64) (x : Int32) : am_run d 94 4 ls (.int x :: st) σ τ = if x = 0 then am_run d 94 23 ls st σ τ else am_run d 94 7 ls st σ τ := (rr_if 23 dX10_areParents_4 (by decide)).trans am_sel
theorem r94_7 (d : Nat) (st : List Value) (σ : am_St) (τ : Int64) (x : Int32) (v0 v1 v3 v4 : Value) : am_run d 94 7 [v0, v1, .int x, v3, v4] st σ τ = am_run d 94 8 [v0, v1, .int x, v3, v4] (.int x :: st) σ τ := rr_iload_n dX10_areParents_7 rfl
theorem r94_8 (d : Nat) (ls st : List Value) (σ : am_St) (τ : Int64) : am_run d 94 8 ls st σ τ = am_run d 94 9 ls (.int (-1) :: st) σ τ := rr_iconst (-1) dX10_areParents_8 (by decide)
theorem r94_9 (d : Nat) (ls st : List Value) (σ : am_St) (τ : Int64) (x y : Int32) : am_run d 94 9 ls (.int y :: .int x :: st) σ τ = if x = y then am_run d 94 12 ls st σ τ else am_run d 94 21 ls st σ τ := (rr_icmp 21 dX10_areParents_9 (by decide)).trans am_seln
theorem r94_12 (d : Nat) (st : List Value) (σ : am_St) (τ : Int64) (x : Int32) (v0 v1 v2 v4 : Value) : am_run d 94 12 [v0, v1, v2, .int x, v4] st σ τ = am_run d 94 13 [v0, v1, v2, .int x, v4] (.int x :: st) σ τ := rr_iload_n dX10_areParents_12 rfl
theorem r94_13 (d : Nat) (ls st : List Value) (σ : am_St) (τ : Int64) : am_run d 94 13 ls st σ τ = am_run d 94 14 ls (.int (-1) :: st) σ τ := rr_iconst (-1) dX10_areParents_13 (by decide)
theorem r94_14 (d : Nat) (ls st : List Value) (σ : am_St) (τ : Int64) (x y : Int32) : am_run d 94 14 ls (.int y :: .int x :: st) σ τ = if x = y then am_run d 94 17 ls st σ τ else am_run d 94 21 ls st σ τ := (rr_icmp 21 dX10_areParents_14 (by decide)).trans am_seln
theorem r94_17 (d : Nat) (ls st : List Value) (σ : am_St) (τ : Int64) : am_run d 94 17 ls st σ τ = am_run d 94 18 ls (.int 1 :: st) σ τ := rr_iconst 1 dX10_areParents_17 (by decide)
theorem r94_18 (d : Nat) (ls st : List Value) (σ : am_St) (τ : Int64) : am_run d 94 18 ls st σ τ = am_run d 94 22 ls st σ τ := rr_goto 22 dX10_areParents_18 (by decide)
theorem r94_21 (d : Nat) (ls st : List Value) (σ : am_St) (τ : Int64) : am_run d 94 21 ls st σ τ = am_run d 94 22 ls (.int 0 :: st) σ τ := rr_iconst 0 dX10_areParents_21 (by decide)
theorem r94_22 (d : Nat) (ls : List Value) (σ : am_St) (τ : Int64) (x : Int32) (hx : x = 0 ∨ x = 1) : am_run d 94 22 ls [.int x] σ τ = some (some (.int x), σ, τ) := rr_zret dX10_areParents_22 rfl hx
theorem r94_23 (d : Nat) (st : List Value) (σ : am_St) (τ : Int64) (x : Int32) (v0 v1 v3 v4 : Value) : am_run d 94 23 [v0, v1, .int x, v3, v4] st σ τ = am_run d 94 24 [v0, v1, .int x, v3, v4] (.int x :: st) σ τ := rr_iload_n dX10_areParents_23 rfl
theorem r94_24 (d : Nat) (ls st : List Value) (σ : am_St) (τ : Int64) : am_run d 94 24 ls st σ τ = am_run d 94 26 ls (.int (-2) :: st) σ τ := rr_bipush (-2) dX10_areParents_24 (by decide)
theorem r94_26 (d : Nat) (ls st : List Value) (σ : am_St) (τ : Int64) (x y : Int32) : am_run d 94 26 ls (.int y :: .int x :: st) σ τ = if x = y then am_run d 94 29 ls st σ τ else am_run d 94 45 ls st σ τ := (rr_icmp 45 dX10_areParents_26 (by decide)).trans am_seln
theorem r94_29 (d : Nat) (st : List Value) (σ : am_St) (τ : Int64) (x : Nat) (v1 v2 v3 v4 : Value) : am_run d 94 29 [.ref x, v1, v2, v3, v4] st σ τ = am_run d 94 30 [.ref x, v1, v2, v3, v4] (.ref x :: st) σ τ := rr_aload_n dX10_areParents_29 rfl
theorem r94_30 (d : Nat) (ls st : List Value) (σ : am_St) (τ : Int64) (k : Nat)  (hk : am_kc k = 10) (hc : am_cats st ≤ 8) : am_run (d + 1) 94 30 ls (.ref k :: st) σ τ = (am_call d 93 [.ref k] σ τ).bind (fun r => am_run (d + 1) 94 33 ls (r.1.toList ++ st) r.2.1 r.2.2) := rr_invv [] dX10_areParents_30 (by decide +kernel) (by decide) rfl (Nat.le_of_ble_eq_true rfl) hk hc
theorem r94_33 (d : Nat) (ls st : List Value) (σ : am_St) (τ : Int64) : am_run d 94 33 ls st σ τ = am_run d 94 34 ls (.int (-1) :: st) σ τ := rr_iconst (-1) dX10_areParents_33 (by decide)
theorem r94_34 (d : Nat) (ls st : List Value) (σ : am_St) (τ : Int64) (x y : Int32) : am_run d 94 34 ls (.int y :: .int x :: st) σ τ = if x = y then am_run d 94 41 ls st σ τ else am_run d 94 37 ls st σ τ := (rr_icmp 41 dX10_areParents_34 (by decide)).trans am_sel
theorem r94_37 (d : Nat) (ls st : List Value) (σ : am_St) (τ : Int64) : am_run d 94 37 ls st σ τ = am_run d 94 38 ls (.int 1 :: st) σ τ := rr_iconst 1 dX10_areParents_37 (by decide)
theorem r94_38 (d : Nat) (ls st : List Value) (σ : am_St) (τ : Int64) : am_run d 94 38 ls st σ τ = am_run d 94 67 ls st σ τ := rr_goto 67 dX10_areParents_38 (by decide)
theorem r94_41 (d : Nat) (ls st : List Value) (σ : am_St) (τ : Int64) : am_run d 94 41 ls st σ τ = am_run d 94 42 ls (.int 0 :: st) σ τ := rr_iconst 0 dX10_areParents_41 (by decide)
theorem r94_42 (d : Nat) (ls st : List Value) (σ : am_St) (τ : Int64) : am_run d 94 42 ls st σ τ = am_run d 94 67 ls st σ τ := rr_goto 67 dX10_areParents_42 (by decide)
theorem r94_45 (d : Nat) (st : List Value) (σ : am_St) (τ : Int64) (x : Nat) (v1 v2 v3 v4 : Value) : am_run d 94 45 [.ref x, v1, v2, v3, v4] st σ τ = am_run d 94 46 [.ref x, v1, v2, v3, v4] (.ref x :: st) σ τ := rr_aload_n dX10_areParents_45 rfl
theorem r94_46 (d : Nat) (st : List Value) (σ : am_St) (τ : Int64) (x : Int32) (v0 v1 v3 v4 : Value) : am_run d 94 46 [v0, v1, .int x, v3, v4] st σ τ = am_run d 94 47 [v0, v1, .int x, v3, v4] (.int x :: st) σ τ := rr_iload_n dX10_areParents_46 rfl
theorem r94_47 (d : Nat) (ls st : List Value) (σ : am_St) (τ : Int64) (k : Nat) (a0 : Int32) (hk : am_kc k = 10) (hc : am_cats st ≤ 8) : am_run (d + 1) 94 47 ls (.int a0 :: .ref k :: st) σ τ = (am_call d 91 [.ref k, .int a0] σ τ).bind (fun r => am_run (d + 1) 94 50 ls (r.1.toList ++ st) r.2.1 r.2.2) := rr_invv [.int a0] dX10_areParents_47 (by decide +kernel) (by decide) rfl (Nat.le_of_ble_eq_true rfl) hk hc
theorem r94_50 (d : Nat) (ls st : List Value) (σ : am_St) (τ : Int64) (x : Int32) : am_run d 94 50 ls (.int x :: st) σ τ = if x = 0 then am_run d 94 66 ls st σ τ else am_run d 94 53 ls st σ τ := (rr_if 66 dX10_areParents_50 (by decide)).trans am_sel
theorem r94_53 (d : Nat) (st : List Value) (σ : am_St) (τ : Int64) (x : Nat) (v1 v2 v3 v4 : Value) : am_run d 94 53 [.ref x, v1, v2, v3, v4] st σ τ = am_run d 94 54 [.ref x, v1, v2, v3, v4] (.ref x :: st) σ τ := rr_aload_n dX10_areParents_53 rfl
theorem r94_54 (d : Nat) (ls st : List Value) (σ : am_St) (τ : Int64) (k : Nat) : am_run d 94 54 ls (.ref k :: st) σ τ = am_gf k 10 9 σ τ (fun v => am_run d 94 57 ls (v :: st) σ τ) := rr_getf dX10_areParents_54 (by decide +kernel)
theorem r94_57 (d : Nat) (st : List Value) (σ : am_St) (τ : Int64) (x : Int32) (v0 v1 v3 v4 : Value) : am_run d 94 57 [v0, v1, .int x, v3, v4] st σ τ = am_run d 94 58 [v0, v1, .int x, v3, v4] (.int x :: st) σ τ := rr_iload_n dX10_areParents_57 rfl
theorem r94_58 (d : Nat) (ls st : List Value) (σ : am_St) (τ : Int64) (i : Int32) (k : Nat) : am_run d 94 58 ls (.int i :: .ref k :: st) σ τ = am_ai false k i (fun j => am_run d 94 59 ls (.int (σ k j) :: st) σ τ) := rr_iald dX10_areParents_58
theorem r94_59 (d : Nat) (ls st : List Value) (σ : am_St) (τ : Int64) (x : Int32) : am_run d 94 59 ls (.int x :: st) σ τ = if x = 0 then am_run d 94 62 ls st σ τ else am_run d 94 66 ls st σ τ := (rr_if 66 dX10_areParents_59 (by decide)).trans am_seln
theorem r94_62 (d : Nat) (ls st : List Value) (σ : am_St) (τ : Int64) : am_run d 94 62 ls st σ τ = am_run d 94 63 ls (.int 1 :: st) σ τ := rr_iconst 1 dX10_areParents_62 (by decide)
theorem r94_63 (d : Nat) (ls st : List Value) (σ : am_St) (τ : Int64) : am_run d 94 63 ls st σ τ = am_run d 94 67 ls st σ τ := rr_goto 67 dX10_areParents_63 (by decide)
theorem r94_66 (d : Nat) (ls st : List Value) (σ : am_St) (τ : Int64) : am_run d 94 66 ls st σ τ = am_run d 94 67 ls (.int 0 :: st) σ τ := rr_iconst 0 dX10_areParents_66 (by decide)
theorem r94_67 (d : Nat) (st : List Value) (σ : am_St) (τ : Int64) (x : Int32) (v0 v1 v2 v3 v4 : Value) : am_run d 94 67 [v0, v1, v2, v3, v4] (.int x :: st) σ τ = am_run d 94 69 [v0, v1, v2, am_nl v3, .int x] st σ τ := rr_istore _ dX10_areParents_67 (by decide) (by first | rfl | (by_cases h : v3.category = 2 <;> simp [am_set1, am_nl, h]))
theorem r94_69 (d : Nat) (st : List Value) (σ : am_St) (τ : Int64) (x : Int32) (v0 v1 v2 v3 : Value) : am_run d 94 69 [v0, v1, v2, v3, .int x] st σ τ = am_run d 94 71 [v0, v1, v2, v3, .int x] (.int x :: st) σ τ := rr_iload dX10_areParents_69 rfl
theorem r94_71 (d : Nat) (ls st : List Value) (σ : am_St) (τ : Int64) (x : Int32) : am_run d 94 71 ls (.int x :: st) σ τ = if x = 0 then am_run d 94 96 ls st σ τ else am_run d 94 74 ls st σ τ := (rr_if 96 dX10_areParents_71 (by decide)).trans am_sel
theorem r94_74 (d : Nat) (st : List Value) (σ : am_St) (τ : Int64) (x : Nat) (v1 v2 v3 v4 : Value) : am_run d 94 74 [.ref x, v1, v2, v3, v4] st σ τ = am_run d 94 75 [.ref x, v1, v2, v3, v4] (.ref x :: st) σ τ := rr_aload_n dX10_areParents_74 rfl
theorem r94_75 (d : Nat) (st : List Value) (σ : am_St) (τ : Int64) (x : Int32) (v0 v1 v2 v4 : Value) : am_run d 94 75 [v0, v1, v2, .int x, v4] st σ τ = am_run d 94 76 [v0, v1, v2, .int x, v4] (.int x :: st) σ τ := rr_iload_n dX10_areParents_75 rfl
theorem r94_76 (d : Nat) (ls st : List Value) (σ : am_St) (τ : Int64) (k : Nat) (a0 : Int32) (hk : am_kc k = 10) (hc : am_cats st ≤ 8) : am_run (d + 1) 94 76 ls (.int a0 :: .ref k :: st) σ τ = (am_call d 91 [.ref k, .int a0] σ τ).bind (fun r => am_run (d + 1) 94 79 ls (r.1.toList ++ st) r.2.1 r.2.2) := rr_invv [.int a0] dX10_areParents_76 (by decide +kernel) (by decide) rfl (Nat.le_of_ble_eq_true rfl) hk hc
theorem r94_79 (d : Nat) (ls st : List Value) (σ : am_St) (τ : Int64) (x : Int32) : am_run d 94 79 ls (.int x :: st) σ τ = if x = 0 then am_run d 94 96 ls st σ τ else am_run d 94 82 ls st σ τ := (rr_if 96 dX10_areParents_79 (by decide)).trans am_sel
theorem r94_82 (d : Nat) (st : List Value) (σ : am_St) (τ : Int64) (x : Nat) (v1 v2 v3 v4 : Value) : am_run d 94 82 [.ref x, v1, v2, v3, v4] st σ τ = am_run d 94 83 [.ref x, v1, v2, v3, v4] (.ref x :: st) σ τ := rr_aload_n dX10_areParents_82 rfl
theorem r94_83 (d : Nat) (ls st : List Value) (σ : am_St) (τ : Int64) (k : Nat) : am_run d 94 83 ls (.ref k :: st) σ τ = am_gf k 10 9 σ τ (fun v => am_run d 94 86 ls (v :: st) σ τ) := rr_getf dX10_areParents_83 (by decide +kernel)
theorem r94_86 (d : Nat) (st : List Value) (σ : am_St) (τ : Int64) (x : Int32) (v0 v1 v2 v4 : Value) : am_run d 94 86 [v0, v1, v2, .int x, v4] st σ τ = am_run d 94 87 [v0, v1, v2, .int x, v4] (.int x :: st) σ τ := rr_iload_n dX10_areParents_86 rfl
theorem r94_87 (d : Nat) (ls st : List Value) (σ : am_St) (τ : Int64) (i : Int32) (k : Nat) : am_run d 94 87 ls (.int i :: .ref k :: st) σ τ = am_ai false k i (fun j => am_run d 94 88 ls (.int (σ k j) :: st) σ τ) := rr_iald dX10_areParents_87
theorem r94_88 (d : Nat) (ls st : List Value) (σ : am_St) (τ : Int64) : am_run d 94 88 ls st σ τ = am_run d 94 89 ls (.int 1 :: st) σ τ := rr_iconst 1 dX10_areParents_88 (by decide)
theorem r94_89 (d : Nat) (ls st : List Value) (σ : am_St) (τ : Int64) (x y : Int32) : am_run d 94 89 ls (.int y :: .int x :: st) σ τ = if x = y then am_run d 94 92 ls st σ τ else am_run d 94 96 ls st σ τ := (rr_icmp 96 dX10_areParents_89 (by decide)).trans am_seln
theorem r94_92 (d : Nat) (ls st : List Value) (σ : am_St) (τ : Int64) : am_run d 94 92 ls st σ τ = am_run d 94 93 ls (.int 1 :: st) σ τ := rr_iconst 1 dX10_areParents_92 (by decide)
theorem r94_93 (d : Nat) (ls st : List Value) (σ : am_St) (τ : Int64) : am_run d 94 93 ls st σ τ = am_run d 94 97 ls st σ τ := rr_goto 97 dX10_areParents_93 (by decide)
theorem r94_96 (d : Nat) (ls st : List Value) (σ : am_St) (τ : Int64) : am_run d 94 96 ls st σ τ = am_run d 94 97 ls (.int 0 :: st) σ τ := rr_iconst 0 dX10_areParents_96 (by decide)
theorem r94_97 (d : Nat) (ls : List Value) (σ : am_St) (τ : Int64) (x : Int32) (hx : x = 0 ∨ x = 1) : am_run d 94 97 ls [.int x] σ τ = some (some (.int x), σ, τ) := rr_zret dX10_areParents_97 rfl hx
theorem dX10_person_0 : decode (am_code 95) 0 = .ok (.iload_n 1, 1) := by decide +kernel
theorem dX10_person_1 : decode (am_code 95) 1 = .ok (.i2l, 1) := by decide +kernel
theorem dX10_person_2 : decode (am_code 95) 2 = .ok (.lconst 0, 1) := by decide +kernel
theorem dX10_person_3 : decode (am_code 95) 3 = .ok (.ldc2_w 141, 3) := by decide +kernel
theorem dX10_person_6 : decode (am_code 95) 6 = .ok (.invokestatic 112, 3) := by decide +kernel
theorem dX10_person_9 : decode (am_code 95) 9 = .ok (.ifCond .eq 13, 3) := by decide +kernel
theorem dX10_person_12 : decode (am_code 95) 12 = .ok (.iload_n 2, 1) := by decide +kernel
theorem dX10_person_13 : decode (am_code 95) 13 = .ok (.i2l, 1) := by decide +kernel
theorem dX10_person_14 : decode (am_code 95) 14 = .ok (.lconst 0, 1) := by decide +kernel
theorem dX10_person_15 : decode (am_code 95) 15 = .ok (.lconst 1, 1) := by decide +kernel
theorem dX10_person_16 : decode (am_code 95) 16 = .ok (.invokestatic 112, 3) := by decide +kernel
theorem dX10_person_19 : decode (am_code 95) 19 = .ok (.ifCond .ne 6, 3) := by decide +kernel
theorem dX10_person_22 : decode (am_code 95) 22 = .ok (.bipush (-102), 2) := by decide +kernel
theorem dX10_person_24 : decode (am_code 95) 24 = .ok (.ireturn, 1) := by decide +kernel
theorem dX10_person_25 : decode (am_code 95) 25 = .ok (.aload_n 0, 1) := by decide +kernel
theorem dX10_person_26 : decode (am_code 95) 26 = .ok (.iload_n 1, 1) := by decide +kernel
theorem dX10_person_27 : decode (am_code 95) 27 = .ok (.iload_n 3, 1) := by decide +kernel
theorem dX10_person_28 : decode (am_code 95) 28 = .ok (.iload 4, 2) := by decide +kernel
theorem dX10_person_30 : decode (am_code 95) 30 = .ok (.invokevirtual 143, 3) := by decide +kernel
theorem dX10_person_33 : decode (am_code 95) 33 = .ok (.ifCond .ne 6, 3) := by decide +kernel
theorem dX10_person_36 : decode (am_code 95) 36 = .ok (.bipush (-101), 2) := by decide +kernel
theorem dX10_person_38 : decode (am_code 95) 38 = .ok (.ireturn, 1) := by decide +kernel
theorem dX10_person_39 : decode (am_code 95) 39 = .ok (.iload 5, 2) := by decide +kernel
theorem dX10_person_41 : decode (am_code 95) 41 = .ok (.i2l, 1) := by decide +kernel
theorem dX10_person_42 : decode (am_code 95) 42 = .ok (.lconst 0, 1) := by decide +kernel
theorem dX10_person_43 : decode (am_code 95) 43 = .ok (.iload_n 1, 1) := by decide +kernel
theorem dX10_person_44 : decode (am_code 95) 44 = .ok (.invokestatic 132, 3) := by decide +kernel
theorem dX10_person_47 : decode (am_code 95) 47 = .ok (.ifCond .eq 9, 3) := by decide +kernel
theorem dX10_person_50 : decode (am_code 95) 50 = .ok (.ldc2_w 147, 3) := by decide +kernel
theorem dX10_person_53 : decode (am_code 95) 53 = .ok (.goto 4, 3) := by decide +kernel
theorem dX10_person_56 : decode (am_code 95) 56 = .ok (.lconst 0, 1) := by decide +kernel
theorem dX10_person_57 : decode (am_code 95) 57 = .ok (.invokestatic 112, 3) := by decide +kernel
theorem dX10_person_60 : decode (am_code 95) 60 = .ok (.ifCond .ne 6, 3) := by decide +kernel
theorem dX10_person_63 : decode (am_code 95) 63 = .ok (.bipush (-102), 2) := by decide +kernel
theorem dX10_person_65 : decode (am_code 95) 65 = .ok (.ireturn, 1) := by decide +kernel
theorem dX10_person_66 : decode (am_code 95) 66 = .ok (.aload_n 0, 1) := by decide +kernel
theorem dX10_person_67 : decode (am_code 95) 67 = .ok (.getfield 129, 3) := by decide +kernel
theorem dX10_person_70 : decode (am_code 95) 70 = .ok (.bipush 12, 2) := by decide +kernel
theorem dX10_person_72 : decode (am_code 95) 72 = .ok (.if_icmp .eq 17, 3) := by decide +kernel
theorem dX10_person_75 : decode (am_code 95) 75 = .ok (.iload_n 3, 1) := by decide +kernel
theorem dX10_person_76 : decode (am_code 95) 76 = .ok (.bipush (-2), 2) := by decide +kernel
theorem dX10_person_78 : decode (am_code 95) 78 = .ok (.if_icmp .ne 14, 3) := by decide +kernel
theorem dX10_person_81 : decode (am_code 95) 81 = .ok (.aload_n 0, 1) := by decide +kernel
theorem dX10_person_82 : decode (am_code 95) 82 = .ok (.getfield 149, 3) := by decide +kernel
theorem dX10_person_85 : decode (am_code 95) 85 = .ok (.iconst 3, 1) := by decide +kernel
theorem dX10_person_86 : decode (am_code 95) 86 = .ok (.if_icmp .ne 6, 3) := by decide +kernel
theorem dX10_person_89 : decode (am_code 95) 89 = .ok (.bipush (-104), 2) := by decide +kernel
theorem dX10_person_91 : decode (am_code 95) 91 = .ok (.ireturn, 1) := by decide +kernel
theorem dX10_person_92 : decode (am_code 95) 92 = .ok (.aload_n 0, 1) := by decide +kernel
theorem dX10_person_93 : decode (am_code 95) 93 = .ok (.getfield 19, 3) := by decide +kernel
theorem dX10_person_96 : decode (am_code 95) 96 = .ok (.aload_n 0, 1) := by decide +kernel
theorem dX10_person_97 : decode (am_code 95) 97 = .ok (.getfield 129, 3) := by decide +kernel
theorem dX10_person_100 : decode (am_code 95) 100 = .ok (.iload_n 1, 1) := by decide +kernel
theorem dX10_person_101 : decode (am_code 95) 101 = .ok (.iastore, 1) := by decide +kernel
theorem dX10_person_102 : decode (am_code 95) 102 = .ok (.aload_n 0, 1) := by decide +kernel
theorem dX10_person_103 : decode (am_code 95) 103 = .ok (.getfield 22, 3) := by decide +kernel
theorem dX10_person_106 : decode (am_code 95) 106 = .ok (.aload_n 0, 1) := by decide +kernel
theorem dX10_person_107 : decode (am_code 95) 107 = .ok (.getfield 129, 3) := by decide +kernel
theorem dX10_person_110 : decode (am_code 95) 110 = .ok (.iload_n 2, 1) := by decide +kernel
theorem dX10_person_111 : decode (am_code 95) 111 = .ok (.iastore, 1) := by decide +kernel
theorem dX10_person_112 : decode (am_code 95) 112 = .ok (.aload_n 0, 1) := by decide +kernel
theorem dX10_person_113 : decode (am_code 95) 113 = .ok (.getfield 25, 3) := by decide +kernel
theorem dX10_person_116 : decode (am_code 95) 116 = .ok (.aload_n 0, 1) := by decide +kernel
theorem dX10_person_117 : decode (am_code 95) 117 = .ok (.getfield 129, 3) := by decide +kernel
theorem dX10_person_120 : decode (am_code 95) 120 = .ok (.iload_n 3, 1) := by decide +kernel
theorem dX10_person_121 : decode (am_code 95) 121 = .ok (.iastore, 1) := by decide +kernel
theorem dX10_person_122 : decode (am_code 95) 122 = .ok (.aload_n 0, 1) := by decide +kernel
theorem dX10_person_123 : decode (am_code 95) 123 = .ok (.getfield 28, 3) := by decide +kernel
theorem dX10_person_126 : decode (am_code 95) 126 = .ok (.aload_n 0, 1) := by decide +kernel
theorem dX10_person_127 : decode (am_code 95) 127 = .ok (.getfield 129, 3) := by decide +kernel
theorem dX10_person_130 : decode (am_code 95) 130 = .ok (.iload 4, 2) := by decide +kernel
theorem dX10_person_132 : decode (am_code 95) 132 = .ok (.iastore, 1) := by decide +kernel
theorem dX10_person_133 : decode (am_code 95) 133 = .ok (.aload_n 0, 1) := by decide +kernel
theorem dX10_person_134 : decode (am_code 95) 134 = .ok (.getfield 31, 3) := by decide +kernel
theorem dX10_person_137 : decode (am_code 95) 137 = .ok (.aload_n 0, 1) := by decide +kernel
theorem dX10_person_138 : decode (am_code 95) 138 = .ok (.getfield 129, 3) := by decide +kernel
theorem dX10_person_141 : decode (am_code 95) 141 = .ok (.iload 5, 2) := by decide +kernel
theorem dX10_person_143 : decode (am_code 95) 143 = .ok (.iastore, 1) := by decide +kernel
theorem dX10_person_144 : decode (am_code 95) 144 = .ok (.aload_n 0, 1) := by decide +kernel
theorem dX10_person_145 : decode (am_code 95) 145 = .ok (.getfield 34, 3) := by decide +kernel
theorem dX10_person_148 : decode (am_code 95) 148 = .ok (.aload_n 0, 1) := by decide +kernel
theorem dX10_person_149 : decode (am_code 95) 149 = .ok (.getfield 129, 3) := by decide +kernel
theorem dX10_person_152 : decode (am_code 95) 152 = .ok (.iconst (-1), 1) := by decide +kernel
theorem dX10_person_153 : decode (am_code 95) 153 = .ok (.iastore, 1) := by decide +kernel
theorem dX10_person_154 : decode (am_code 95) 154 = .ok (.aload_n 0, 1) := by decide +kernel
theorem dX10_person_155 : decode (am_code 95) 155 = .ok (.getfield 37, 3) := by decide +kernel
theorem dX10_person_158 : decode (am_code 95) 158 = .ok (.aload_n 0, 1) := by decide +kernel
theorem dX10_person_159 : decode (am_code 95) 159 = .ok (.getfield 129, 3) := by decide +kernel
theorem dX10_person_162 : decode (am_code 95) 162 = .ok (.iconst 1, 1) := by decide +kernel
theorem dX10_person_163 : decode (am_code 95) 163 = .ok (.iastore, 1) := by decide +kernel
theorem dX10_person_164 : decode (am_code 95) 164 = .ok (.aload_n 0, 1) := by decide +kernel
theorem dX10_person_165 : decode (am_code 95) 165 = .ok (.getfield 40, 3) := by decide +kernel
theorem dX10_person_168 : decode (am_code 95) 168 = .ok (.aload_n 0, 1) := by decide +kernel
theorem dX10_person_169 : decode (am_code 95) 169 = .ok (.getfield 129, 3) := by decide +kernel
theorem dX10_person_172 : decode (am_code 95) 172 = .ok (.iload_n 3, 1) := by decide +kernel
theorem dX10_person_173 : decode (am_code 95) 173 = .ok (.bipush (-2), 2) := by decide +kernel
theorem dX10_person_175 : decode (am_code 95) 175 = .ok (.if_icmp .ne 10, 3) := by decide +kernel
theorem dX10_person_178 : decode (am_code 95) 178 = .ok (.aload_n 0, 1) := by decide +kernel
theorem dX10_person_179 : decode (am_code 95) 179 = .ok (.invokevirtual 135, 3) := by decide +kernel
theorem dX10_person_182 : decode (am_code 95) 182 = .ok (.goto 4, 3) := by decide +kernel
theorem dX10_person_185 : decode (am_code 95) 185 = .ok (.iload_n 3, 1) := by decide +kernel
theorem dX10_person_186 : decode (am_code 95) 186 = .ok (.iastore, 1) := by decide +kernel
theorem dX10_person_187 : decode (am_code 95) 187 = .ok (.aload_n 0, 1) := by decide +kernel
theorem dX10_person_188 : decode (am_code 95) 188 = .ok (.dup, 1) := by decide +kernel
theorem dX10_person_189 : decode (am_code 95) 189 = .ok (.getfield 149, 3) := by decide +kernel
theorem dX10_person_192 : decode (am_code 95) 192 = .ok (.iload_n 3, 1) := by decide +kernel
theorem dX10_person_193 : decode (am_code 95) 193 = .ok (.bipush (-2), 2) := by decide +kernel
theorem dX10_person_195 : decode (am_code 95) 195 = .ok (.if_icmp .ne 7, 3) := by decide +kernel
theorem dX10_person_198 : decode (am_code 95) 198 = .ok (.iconst 1, 1) := by decide +kernel
theorem dX10_person_199 : decode (am_code 95) 199 = .ok (.goto 4, 3) := by decide +kernel
theorem dX10_person_202 : decode (am_code 95) 202 = .ok (.iconst 0, 1) := by decide +kernel
theorem dX10_person_203 : decode (am_code 95) 203 = .ok (.iadd, 1) := by decide +kernel
theorem dX10_person_204 : decode (am_code 95) 204 = .ok (.putfield 149, 3) := by decide +kernel
theorem dX10_person_207 : decode (am_code 95) 207 = .ok (.aload_n 0, 1) := by decide +kernel
theorem dX10_person_208 : decode (am_code 95) 208 = .ok (.dup, 1) := by decide +kernel
theorem dX10_person_209 : decode (am_code 95) 209 = .ok (.getfield 129, 3) := by decide +kernel
theorem dX10_person_212 : decode (am_code 95) 212 = .ok (.iconst 1, 1) := by decide +kernel
theorem dX10_person_213 : decode (am_code 95) 213 = .ok (.iadd, 1) := by decide +kernel
theorem dX10_person_214 : decode (am_code 95) 214 = .ok (.putfield 129, 3) := by decide +kernel
theorem dX10_person_217 : decode (am_code 95) 217 = .ok (.aload_n 0, 1) := by decide +kernel
theorem dX10_person_218 : decode (am_code 95) 218 = .ok (.getfield 129, 3) := by decide +kernel
theorem dX10_person_221 : decode (am_code 95) 221 = .ok (.iconst 1, 1) := by decide +kernel
theorem dX10_person_222 : decode (am_code 95) 222 = .ok (.isub, 1) := by decide +kernel
theorem dX10_person_223 : decode (am_code 95) 223 = .ok (.ireturn, 1) := by decide +kernel
theorem r95_0 (d : Nat) (st : List Value) (σ : am_St) (τ : Int64) (x : Int32) (v0 v2 v3 v4 v5 : Value) : am_run d 95 0 [v0, .int x, v2, v3, v4, v5] st σ τ = am_run d 95 1 [v0, .int x, v2, v3, v4, v5] (.int x :: st) σ τ := rr_iload_n dX10_person_0 rfl
theorem r95_1 (d : Nat) (ls st : List Value) (σ : am_St) (τ : Int64) (x : Int32) : am_run d 95 1 ls (.int x :: st) σ τ = am_run d 95 2 ls (.long x.toInt64 :: st) σ τ := rr_i2l dX10_person_1
theorem r95_2 (d : Nat) (ls st : List Value) (σ : am_St) (τ : Int64) : am_run d 95 2 ls st σ τ = am_run d 95 3 ls (.long 0 :: st) σ τ := rr_lconst 0 dX10_person_2 (by decide)
theorem r95_3 (d : Nat) (ls st : List Value) (σ : am_St) (τ : Int64) : am_run d 95 3 ls st σ τ = am_run d 95 6 ls (.long 4 :: st) σ τ := rr_ldc2 4 dX10_person_3 (by decide +kernel)
theorem r95_6 (d : Nat) (ls st : List Value) (σ : am_St) (τ : Int64) (a0 : Int64) (a1 : Int64) (a2 : Int64) (hc : am_cats st ≤ 8) : am_run (d + 1) 95 6 ls (.long a2 :: .long a1 :: .long a0 :: st) σ τ = (am_call d 82 [.long a0, .long a1, .long a2] σ τ).bind (fun r => am_run (d + 1) 95 9 ls (r.1.toList ++ st) r.2.1 r.2.2) := rr_invs [.long a0, .long a1, .long a2] dX10_person_6 (by decide +kernel) (by decide +kernel) (by decide) rfl (Nat.le_of_ble_eq_true rfl) hc
theorem r95_9 (d : Nat) (ls st : List Value) (σ : am_St) (τ : Int64) (x : Int32) : am_run d 95 9 ls (.int x :: st) σ τ = if x = 0 then am_run d 95 22 ls st σ τ else am_run d 95 12 ls st σ τ := (rr_if 22 dX10_person_9 (by decide)).trans am_sel
theorem r95_12 (d : Nat) (st : List Value) (σ : am_St) (τ : Int64) (x : Int32) (v0 v1 v3 v4 v5 : Value) : am_run d 95 12 [v0, v1, .int x, v3, v4, v5] st σ τ = am_run d 95 13 [v0, v1, .int x, v3, v4, v5] (.int x :: st) σ τ := rr_iload_n dX10_person_12 rfl
theorem r95_13 (d : Nat) (ls st : List Value) (σ : am_St) (τ : Int64) (x : Int32) : am_run d 95 13 ls (.int x :: st) σ τ = am_run d 95 14 ls (.long x.toInt64 :: st) σ τ := rr_i2l dX10_person_13
theorem r95_14 (d : Nat) (ls st : List Value) (σ : am_St) (τ : Int64) : am_run d 95 14 ls st σ τ = am_run d 95 15 ls (.long 0 :: st) σ τ := rr_lconst 0 dX10_person_14 (by decide)
theorem r95_15 (d : Nat) (ls st : List Value) (σ : am_St) (τ : Int64) : am_run d 95 15 ls st σ τ = am_run d 95 16 ls (.long 1 :: st) σ τ := rr_lconst 1 dX10_person_15 (by decide)
theorem r95_16 (d : Nat) (ls st : List Value) (σ : am_St) (τ : Int64) (a0 : Int64) (a1 : Int64) (a2 : Int64) (hc : am_cats st ≤ 8) : am_run (d + 1) 95 16 ls (.long a2 :: .long a1 :: .long a0 :: st) σ τ = (am_call d 82 [.long a0, .long a1, .long a2] σ τ).bind (fun r => am_run (d + 1) 95 19 ls (r.1.toList ++ st) r.2.1 r.2.2) := rr_invs [.long a0, .long a1, .long a2] dX10_person_16 (by decide +kernel) (by decide +kernel) (by decide) rfl (Nat.le_of_ble_eq_true rfl) hc
theorem r95_19 (d : Nat) (ls st : List Value) (σ : am_St) (τ : Int64) (x : Int32) : am_run d 95 19 ls (.int x :: st) σ τ = if x = 0 then am_run d 95 22 ls st σ τ else am_run d 95 25 ls st σ τ := (rr_if 25 dX10_person_19 (by decide)).trans am_seln
theorem r95_22 (d : Nat) (ls st : List Value) (σ : am_St) (τ : Int64) : am_run d 95 22 ls st σ τ = am_run d 95 24 ls (.int (-102) :: st) σ τ := rr_bipush (-102) dX10_person_22 (by decide)
theorem r95_24 (d : Nat) (ls : List Value) (σ : am_St) (τ : Int64) (x : Int32) : am_run d 95 24 ls [.int x] σ τ = some (some (.int x), σ, τ) := rr_iret dX10_person_24 rfl
theorem r95_25 (d : Nat) (st : List Value) (σ : am_St) (τ : Int64) (x : Nat) (v1 v2 v3 v4 v5 : Value) : am_run d 95 25 [.ref x, v1, v2, v3, v4, v5] st σ τ = am_run d 95 26 [.ref x, v1, v2, v3, v4, v5] (.ref x :: st) σ τ := rr_aload_n dX10_person_25 rfl
theorem r95_26 (d : Nat) (st : List Value) (σ : am_St) (τ : Int64) (x : Int32) (v0 v2 v3 v4 v5 : Value) : am_run d 95 26 [v0, .int x, v2, v3, v4, v5] st σ τ = am_run d 95 27 [v0, .int x, v2, v3, v4, v5] (.int x :: st) σ τ := rr_iload_n dX10_person_26 rfl
theorem r95_27 (d : Nat) (st : List Value) (σ : am_St) (τ : Int64) (x : Int32) (v0 v1 v2 v4 v5 : Value) : am_run d 95 27 [v0, v1, v2, .int x, v4, v5] st σ τ = am_run d 95 28 [v0, v1, v2, .int x, v4, v5] (.int x :: st) σ τ := rr_iload_n dX10_person_27 rfl
theorem r95_28 (d : Nat) (st : List Value) (σ : am_St) (τ : Int64) (x : Int32) (v0 v1 v2 v3 v5 : Value) : am_run d 95 28 [v0, v1, v2, v3, .int x, v5] st σ τ = am_run d 95 30 [v0, v1, v2, v3, .int x, v5] (.int x :: st) σ τ := rr_iload dX10_person_28 rfl
theorem r95_30 (d : Nat) (ls st : List Value) (σ : am_St) (τ : Int64) (k : Nat) (a0 : Int32) (a1 : Int32) (a2 : Int32) (hk : am_kc k = 10) (hc : am_cats st ≤ 8) : am_run (d + 1) 95 30 ls (.int a2 :: .int a1 :: .int a0 :: .ref k :: st) σ τ = (am_call d 94 [.ref k, .int a0, .int a1, .int a2] σ τ).bind (fun r => am_run (d + 1) 95 33 ls (r.1.toList ++ st) r.2.1 r.2.2) := rr_invv [.int a0, .int a1, .int a2] dX10_person_30 (by decide +kernel) (by decide) rfl (Nat.le_of_ble_eq_true rfl) hk hc
theorem r95_33 (d : Nat) (ls st : List Value) (σ : am_St) (τ : Int64) (x : Int32) : am_run d 95 33 ls (.int x :: st) σ τ = if x = 0 then am_run d 95 36 ls st σ τ else am_run d 95 39 ls st σ τ := (rr_if 39 dX10_person_33 (by decide)).trans am_seln
theorem r95_36 (d : Nat) (ls st : List Value) (σ : am_St) (τ : Int64) : am_run d 95 36 ls st σ τ = am_run d 95 38 ls (.int (-101) :: st) σ τ := rr_bipush (-101) dX10_person_36 (by decide)
theorem r95_38 (d : Nat) (ls : List Value) (σ : am_St) (τ : Int64) (x : Int32) : am_run d 95 38 ls [.int x] σ τ = some (some (.int x), σ, τ) := rr_iret dX10_person_38 rfl
theorem r95_39 (d : Nat) (st : List Value) (σ : am_St) (τ : Int64) (x : Int32) (v0 v1 v2 v3 v4 : Value) : am_run d 95 39 [v0, v1, v2, v3, v4, .int x] st σ τ = am_run d 95 41 [v0, v1, v2, v3, v4, .int x] (.int x :: st) σ τ := rr_iload dX10_person_39 rfl
theorem r95_41 (d : Nat) (ls st : List Value) (σ : am_St) (τ : Int64) (x : Int32) : am_run d 95 41 ls (.int x :: st) σ τ = am_run d 95 42 ls (.long x.toInt64 :: st) σ τ := rr_i2l dX10_person_41
theorem r95_42 (d : Nat) (ls st : List Value) (σ : am_St) (τ : Int64) : am_run d 95 42 ls st σ τ = am_run d 95 43 ls (.long 0 :: st) σ τ := rr_lconst 0 dX10_person_42 (by decide)
theorem r95_43 (d : Nat) (st : List Value) (σ : am_St) (τ : Int64) (x : Int32) (v0 v2 v3 v4 v5 : Value) : am_run d 95 43 [v0, .int x, v2, v3, v4, v5] st σ τ = am_run d 95 44 [v0, .int x, v2, v3, v4, v5] (.int x :: st) σ τ := rr_iload_n dX10_person_43 rfl
theorem r95_44 (d : Nat) (ls st : List Value) (σ : am_St) (τ : Int64) (a0 : Int32) (hc : am_cats st ≤ 8) : am_run (d + 1) 95 44 ls (.int a0 :: st) σ τ = (am_call d 92 [.int a0] σ τ).bind (fun r => am_run (d + 1) 95 47 ls (r.1.toList ++ st) r.2.1 r.2.2) := rr_invs [.int a0] dX10_person_44 (by decide +kernel) (by decide +kernel) (by decide) rfl (Nat.le_of_ble_eq_true rfl) hc
theorem r95_47 (d : Nat) (ls st : List Value) (σ : am_St) (τ : Int64) (x : Int32) : am_run d 95 47 ls (.int x :: st) σ τ = if x = 0 then am_run d 95 56 ls st σ τ else am_run d 95 50 ls st σ τ := (rr_if 56 dX10_person_47 (by decide)).trans am_sel
theorem r95_50 (d : Nat) (ls st : List Value) (σ : am_St) (τ : Int64) : am_run d 95 50 ls st σ τ = am_run d 95 53 ls (.long 5 :: st) σ τ := rr_ldc2 5 dX10_person_50 (by decide +kernel)
theorem r95_53 (d : Nat) (ls st : List Value) (σ : am_St) (τ : Int64) : am_run d 95 53 ls st σ τ = am_run d 95 57 ls st σ τ := rr_goto 57 dX10_person_53 (by decide)
theorem r95_56 (d : Nat) (ls st : List Value) (σ : am_St) (τ : Int64) : am_run d 95 56 ls st σ τ = am_run d 95 57 ls (.long 0 :: st) σ τ := rr_lconst 0 dX10_person_56 (by decide)
theorem r95_57 (d : Nat) (ls st : List Value) (σ : am_St) (τ : Int64) (a0 : Int64) (a1 : Int64) (a2 : Int64) (hc : am_cats st ≤ 8) : am_run (d + 1) 95 57 ls (.long a2 :: .long a1 :: .long a0 :: st) σ τ = (am_call d 82 [.long a0, .long a1, .long a2] σ τ).bind (fun r => am_run (d + 1) 95 60 ls (r.1.toList ++ st) r.2.1 r.2.2) := rr_invs [.long a0, .long a1, .long a2] dX10_person_57 (by decide +kernel) (by decide +kernel) (by decide) rfl (Nat.le_of_ble_eq_true rfl) hc
theorem r95_60 (d : Nat) (ls st : List Value) (σ : am_St) (τ : Int64) (x : Int32) : am_run d 95 60 ls (.int x :: st) σ τ = if x = 0 then am_run d 95 63 ls st σ τ else am_run d 95 66 ls st σ τ := (rr_if 66 dX10_person_60 (by decide)).trans am_seln
theorem r95_63 (d : Nat) (ls st : List Value) (σ : am_St) (τ : Int64) : am_run d 95 63 ls st σ τ = am_run d 95 65 ls (.int (-102) :: st) σ τ := rr_bipush (-102) dX10_person_63 (by decide)
theorem r95_65 (d : Nat) (ls : List Value) (σ : am_St) (τ : Int64) (x : Int32) : am_run d 95 65 ls [.int x] σ τ = some (some (.int x), σ, τ) := rr_iret dX10_person_65 rfl
theorem r95_66 (d : Nat) (st : List Value) (σ : am_St) (τ : Int64) (x : Nat) (v1 v2 v3 v4 v5 : Value) : am_run d 95 66 [.ref x, v1, v2, v3, v4, v5] st σ τ = am_run d 95 67 [.ref x, v1, v2, v3, v4, v5] (.ref x :: st) σ τ := rr_aload_n dX10_person_66 rfl
theorem r95_67 (d : Nat) (ls st : List Value) (σ : am_St) (τ : Int64) (k : Nat) : am_run d 95 67 ls (.ref k :: st) σ τ = am_gf k 10 6 σ τ (fun v => am_run d 95 70 ls (v :: st) σ τ) := rr_getf dX10_person_67 (by decide +kernel)
theorem r95_70 (d : Nat) (ls st : List Value) (σ : am_St) (τ : Int64) : am_run d 95 70 ls st σ τ = am_run d 95 72 ls (.int 12 :: st) σ τ := rr_bipush 12 dX10_person_70 (by decide)
theorem r95_72 (d : Nat) (ls st : List Value) (σ : am_St) (τ : Int64) (x y : Int32) : am_run d 95 72 ls (.int y :: .int x :: st) σ τ = if x = y then am_run d 95 89 ls st σ τ else am_run d 95 75 ls st σ τ := (rr_icmp 89 dX10_person_72 (by decide)).trans am_sel
theorem r95_75 (d : Nat) (st : List Value) (σ : am_St) (τ : Int64) (x : Int32) (v0 v1 v2 v4 v5 : Value) : am_run d 95 75 [v0, v1, v2, .int x, v4, v5] st σ τ = am_run d 95 76 [v0, v1, v2, .int x, v4, v5] (.int x :: st) σ τ := rr_iload_n dX10_person_75 rfl
theorem r95_76 (d : Nat) (ls st : List Value) (σ : am_St) (τ : Int64) : am_run d 95 76 ls st σ τ = am_run d 95 78 ls (.int (-2) :: st) σ τ := rr_bipush (-2) dX10_person_76 (by decide)
theorem r95_78 (d : Nat) (ls st : List Value) (σ : am_St) (τ : Int64) (x y : Int32) : am_run d 95 78 ls (.int y :: .int x :: st) σ τ = if x = y then am_run d 95 81 ls st σ τ else am_run d 95 92 ls st σ τ := (rr_icmp 92 dX10_person_78 (by decide)).trans am_seln
theorem r95_81 (d : Nat) (st : List Value) (σ : am_St) (τ : Int64) (x : Nat) (v1 v2 v3 v4 v5 : Value) : am_run d 95 81 [.ref x, v1, v2, v3, v4, v5] st σ τ = am_run d 95 82 [.ref x, v1, v2, v3, v4, v5] (.ref x :: st) σ τ := rr_aload_n dX10_person_81 rfl
theorem r95_82 (d : Nat) (ls st : List Value) (σ : am_St) (τ : Int64) (k : Nat) : am_run d 95 82 ls (.ref k :: st) σ τ = am_gf k 10 7 σ τ (fun v => am_run d 95 85 ls (v :: st) σ τ) := rr_getf dX10_person_82 (by decide +kernel)
theorem r95_85 (d : Nat) (ls st : List Value) (σ : am_St) (τ : Int64) : am_run d 95 85 ls st σ τ = am_run d 95 86 ls (.int 3 :: st) σ τ := rr_iconst 3 dX10_person_85 (by decide)
theorem r95_86 (d : Nat) (ls st : List Value) (σ : am_St) (τ : Int64) (x y : Int32) : am_run d 95 86 ls (.int y :: .int x :: st) σ τ = if x = y then am_run d 95 89 ls st σ τ else am_run d 95 92 ls st σ τ := (rr_icmp 92 dX10_person_86 (by decide)).trans am_seln
theorem r95_89 (d : Nat) (ls st : List Value) (σ : am_St) (τ : Int64) : am_run d 95 89 ls st σ τ = am_run d 95 91 ls (.int (-104) :: st) σ τ := rr_bipush (-104) dX10_person_89 (by decide)
theorem r95_91 (d : Nat) (ls : List Value) (σ : am_St) (τ : Int64) (x : Int32) : am_run d 95 91 ls [.int x] σ τ = some (some (.int x), σ, τ) := rr_iret dX10_person_91 rfl
theorem r95_92 (d : Nat) (st : List Value) (σ : am_St) (τ : Int64) (x : Nat) (v1 v2 v3 v4 v5 : Value) : am_run d 95 92 [.ref x, v1, v2, v3, v4, v5] st σ τ = am_run d 95 93 [.ref x, v1, v2, v3, v4, v5] (.ref x :: st) σ τ := rr_aload_n dX10_person_92 rfl
theorem r95_93 (d : Nat) (ls st : List Value) (σ : am_St) (τ : Int64) (k : Nat) : am_run d 95 93 ls (.ref k :: st) σ τ = am_gf k 10 8 σ τ (fun v => am_run d 95 96 ls (v :: st) σ τ) := rr_getf dX10_person_93 (by decide +kernel)
theorem r95_96 (d : Nat) (st : List Value) (σ : am_St) (τ : Int64) (x : Nat) (v1 v2 v3 v4 v5 : Value) : am_run d 95 96 [.ref x, v1, v2, v3, v4, v5] st σ τ = am_run d 95 97 [.ref x, v1, v2, v3, v4, v5] (.ref x :: st) σ τ := rr_aload_n dX10_person_96 rfl
theorem r95_97 (d : Nat) (ls st : List Value) (σ : am_St) (τ : Int64) (k : Nat) : am_run d 95 97 ls (.ref k :: st) σ τ = am_gf k 10 6 σ τ (fun v => am_run d 95 100 ls (v :: st) σ τ) := rr_getf dX10_person_97 (by decide +kernel)
theorem r95_100 (d : Nat) (st : List Value) (σ : am_St) (τ : Int64) (x : Int32) (v0 v2 v3 v4 v5 : Value) : am_run d 95 100 [v0, .int x, v2, v3, v4, v5] st σ τ = am_run d 95 101 [v0, .int x, v2, v3, v4, v5] (.int x :: st) σ τ := rr_iload_n dX10_person_100 rfl
theorem r95_101 (d : Nat) (ls st : List Value) (σ : am_St) (τ : Int64) (x i : Int32) (k : Nat) : am_run d 95 101 ls (.int x :: .int i :: .ref k :: st) σ τ = am_ai false k i (fun j => am_run d 95 102 ls st (am_up σ k j x) τ) := rr_iast dX10_person_101
theorem r95_102 (d : Nat) (st : List Value) (σ : am_St) (τ : Int64) (x : Nat) (v1 v2 v3 v4 v5 : Value) : am_run d 95 102 [.ref x, v1, v2, v3, v4, v5] st σ τ = am_run d 95 103 [.ref x, v1, v2, v3, v4, v5] (.ref x :: st) σ τ := rr_aload_n dX10_person_102 rfl
theorem r95_103 (d : Nat) (ls st : List Value) (σ : am_St) (τ : Int64) (k : Nat) : am_run d 95 103 ls (.ref k :: st) σ τ = am_gf k 10 9 σ τ (fun v => am_run d 95 106 ls (v :: st) σ τ) := rr_getf dX10_person_103 (by decide +kernel)
theorem r95_106 (d : Nat) (st : List Value) (σ : am_St) (τ : Int64) (x : Nat) (v1 v2 v3 v4 v5 : Value) : am_run d 95 106 [.ref x, v1, v2, v3, v4, v5] st σ τ = am_run d 95 107 [.ref x, v1, v2, v3, v4, v5] (.ref x :: st) σ τ := rr_aload_n dX10_person_106 rfl
theorem r95_107 (d : Nat) (ls st : List Value) (σ : am_St) (τ : Int64) (k : Nat) : am_run d 95 107 ls (.ref k :: st) σ τ = am_gf k 10 6 σ τ (fun v => am_run d 95 110 ls (v :: st) σ τ) := rr_getf dX10_person_107 (by decide +kernel)
theorem r95_110 (d : Nat) (st : List Value) (σ : am_St) (τ : Int64) (x : Int32) (v0 v1 v3 v4 v5 : Value) : am_run d 95 110 [v0, v1, .int x, v3, v4, v5] st σ τ = am_run d 95 111 [v0, v1, .int x, v3, v4, v5] (.int x :: st) σ τ := rr_iload_n dX10_person_110 rfl
theorem r95_111 (d : Nat) (ls st : List Value) (σ : am_St) (τ : Int64) (x i : Int32) (k : Nat) : am_run d 95 111 ls (.int x :: .int i :: .ref k :: st) σ τ = am_ai false k i (fun j => am_run d 95 112 ls st (am_up σ k j x) τ) := rr_iast dX10_person_111
theorem r95_112 (d : Nat) (st : List Value) (σ : am_St) (τ : Int64) (x : Nat) (v1 v2 v3 v4 v5 : Value) : am_run d 95 112 [.ref x, v1, v2, v3, v4, v5] st σ τ = am_run d 95 113 [.ref x, v1, v2, v3, v4, v5] (.ref x :: st) σ τ := rr_aload_n dX10_person_112 rfl
theorem r95_113 (d : Nat) (ls st : List Value) (σ : am_St) (τ : Int64) (k : Nat) : am_run d 95 113 ls (.ref k :: st) σ τ = am_gf k 10 10 σ τ (fun v => am_run d 95 116 ls (v :: st) σ τ) := rr_getf dX10_person_113 (by decide +kernel)
theorem r95_116 (d : Nat) (st : List Value) (σ : am_St) (τ : Int64) (x : Nat) (v1 v2 v3 v4 v5 : Value) : am_run d 95 116 [.ref x, v1, v2, v3, v4, v5] st σ τ = am_run d 95 117 [.ref x, v1, v2, v3, v4, v5] (.ref x :: st) σ τ := rr_aload_n dX10_person_116 rfl
theorem r95_117 (d : Nat) (ls st : List Value) (σ : am_St) (τ : Int64) (k : Nat) : am_run d 95 117 ls (.ref k :: st) σ τ = am_gf k 10 6 σ τ (fun v => am_run d 95 120 ls (v :: st) σ τ) := rr_getf dX10_person_117 (by decide +kernel)
theorem r95_120 (d : Nat) (st : List Value) (σ : am_St) (τ : Int64) (x : Int32) (v0 v1 v2 v4 v5 : Value) : am_run d 95 120 [v0, v1, v2, .int x, v4, v5] st σ τ = am_run d 95 121 [v0, v1, v2, .int x, v4, v5] (.int x :: st) σ τ := rr_iload_n dX10_person_120 rfl
theorem r95_121 (d : Nat) (ls st : List Value) (σ : am_St) (τ : Int64) (x i : Int32) (k : Nat) : am_run d 95 121 ls (.int x :: .int i :: .ref k :: st) σ τ = am_ai false k i (fun j => am_run d 95 122 ls st (am_up σ k j x) τ) := rr_iast dX10_person_121
theorem r95_122 (d : Nat) (st : List Value) (σ : am_St) (τ : Int64) (x : Nat) (v1 v2 v3 v4 v5 : Value) : am_run d 95 122 [.ref x, v1, v2, v3, v4, v5] st σ τ = am_run d 95 123 [.ref x, v1, v2, v3, v4, v5] (.ref x :: st) σ τ := rr_aload_n dX10_person_122 rfl
theorem r95_123 (d : Nat) (ls st : List Value) (σ : am_St) (τ : Int64) (k : Nat) : am_run d 95 123 ls (.ref k :: st) σ τ = am_gf k 10 11 σ τ (fun v => am_run d 95 126 ls (v :: st) σ τ) := rr_getf dX10_person_123 (by decide +kernel)
theorem r95_126 (d : Nat) (st : List Value) (σ : am_St) (τ : Int64) (x : Nat) (v1 v2 v3 v4 v5 : Value) : am_run d 95 126 [.ref x, v1, v2, v3, v4, v5] st σ τ = am_run d 95 127 [.ref x, v1, v2, v3, v4, v5] (.ref x :: st) σ τ := rr_aload_n dX10_person_126 rfl
theorem r95_127 (d : Nat) (ls st : List Value) (σ : am_St) (τ : Int64) (k : Nat) : am_run d 95 127 ls (.ref k :: st) σ τ = am_gf k 10 6 σ τ (fun v => am_run d 95 130 ls (v :: st) σ τ) := rr_getf dX10_person_127 (by decide +kernel)
theorem r95_130 (d : Nat) (st : List Value) (σ : am_St) (τ : Int64) (x : Int32) (v0 v1 v2 v3 v5 : Value) : am_run d 95 130 [v0, v1, v2, v3, .int x, v5] st σ τ = am_run d 95 132 [v0, v1, v2, v3, .int x, v5] (.int x :: st) σ τ := rr_iload dX10_person_130 rfl
theorem r95_132 (d : Nat) (ls st : List Value) (σ : am_St) (τ : Int64) (x i : Int32) (k : Nat) : am_run d 95 132 ls (.int x :: .int i :: .ref k :: st) σ τ = am_ai false k i (fun j => am_run d 95 133 ls st (am_up σ k j x) τ) := rr_iast dX10_person_132
theorem r95_133 (d : Nat) (st : List Value) (σ : am_St) (τ : Int64) (x : Nat) (v1 v2 v3 v4 v5 : Value) : am_run d 95 133 [.ref x, v1, v2, v3, v4, v5] st σ τ = am_run d 95 134 [.ref x, v1, v2, v3, v4, v5] (.ref x :: st) σ τ := rr_aload_n dX10_person_133 rfl
theorem r95_134 (d : Nat) (ls st : List Value) (σ : am_St) (τ : Int64) (k : Nat) : am_run d 95 134 ls (.ref k :: st) σ τ = am_gf k 10 12 σ τ (fun v => am_run d 95 137 ls (v :: st) σ τ) := rr_getf dX10_person_134 (by decide +kernel)
theorem r95_137 (d : Nat) (st : List Value) (σ : am_St) (τ : Int64) (x : Nat) (v1 v2 v3 v4 v5 : Value) : am_run d 95 137 [.ref x, v1, v2, v3, v4, v5] st σ τ = am_run d 95 138 [.ref x, v1, v2, v3, v4, v5] (.ref x :: st) σ τ := rr_aload_n dX10_person_137 rfl
theorem r95_138 (d : Nat) (ls st : List Value) (σ : am_St) (τ : Int64) (k : Nat) : am_run d 95 138 ls (.ref k :: st) σ τ = am_gf k 10 6 σ τ (fun v => am_run d 95 141 ls (v :: st) σ τ) := rr_getf dX10_person_138 (by decide +kernel)
theorem r95_141 (d : Nat) (st : List Value) (σ : am_St) (τ : Int64) (x : Int32) (v0 v1 v2 v3 v4 : Value) : am_run d 95 141 [v0, v1, v2, v3, v4, .int x] st σ τ = am_run d 95 143 [v0, v1, v2, v3, v4, .int x] (.int x :: st) σ τ := rr_iload dX10_person_141 rfl
theorem r95_143 (d : Nat) (ls st : List Value) (σ : am_St) (τ : Int64) (x i : Int32) (k : Nat) : am_run d 95 143 ls (.int x :: .int i :: .ref k :: st) σ τ = am_ai false k i (fun j => am_run d 95 144 ls st (am_up σ k j x) τ) := rr_iast dX10_person_143
theorem r95_144 (d : Nat) (st : List Value) (σ : am_St) (τ : Int64) (x : Nat) (v1 v2 v3 v4 v5 : Value) : am_run d 95 144 [.ref x, v1, v2, v3, v4, v5] st σ τ = am_run d 95 145 [.ref x, v1, v2, v3, v4, v5] (.ref x :: st) σ τ := rr_aload_n dX10_person_144 rfl
theorem r95_145 (d : Nat) (ls st : List Value) (σ : am_St) (τ : Int64) (k : Nat) : am_run d 95 145 ls (.ref k :: st) σ τ = am_gf k 10 13 σ τ (fun v => am_run d 95 148 ls (v :: st) σ τ) := rr_getf dX10_person_145 (by decide +kernel)
theorem r95_148 (d : Nat) (st : List Value) (σ : am_St) (τ : Int64) (x : Nat) (v1 v2 v3 v4 v5 : Value) : am_run d 95 148 [.ref x, v1, v2, v3, v4, v5] st σ τ = am_run d 95 149 [.ref x, v1, v2, v3, v4, v5] (.ref x :: st) σ τ := rr_aload_n dX10_person_148 rfl
theorem r95_149 (d : Nat) (ls st : List Value) (σ : am_St) (τ : Int64) (k : Nat) : am_run d 95 149 ls (.ref k :: st) σ τ = am_gf k 10 6 σ τ (fun v => am_run d 95 152 ls (v :: st) σ τ) := rr_getf dX10_person_149 (by decide +kernel)
theorem r95_152 (d : Nat) (ls st : List Value) (σ : am_St) (τ : Int64) : am_run d 95 152 ls st σ τ = am_run d 95 153 ls (.int (-1) :: st) σ τ := rr_iconst (-1) dX10_person_152 (by decide)
theorem r95_153 (d : Nat) (ls st : List Value) (σ : am_St) (τ : Int64) (x i : Int32) (k : Nat) : am_run d 95 153 ls (.int x :: .int i :: .ref k :: st) σ τ = am_ai false k i (fun j => am_run d 95 154 ls st (am_up σ k j x) τ) := rr_iast dX10_person_153
theorem r95_154 (d : Nat) (st : List Value) (σ : am_St) (τ : Int64) (x : Nat) (v1 v2 v3 v4 v5 : Value) : am_run d 95 154 [.ref x, v1, v2, v3, v4, v5] st σ τ = am_run d 95 155 [.ref x, v1, v2, v3, v4, v5] (.ref x :: st) σ τ := rr_aload_n dX10_person_154 rfl
theorem r95_155 (d : Nat) (ls st : List Value) (σ : am_St) (τ : Int64) (k : Nat) : am_run d 95 155 ls (.ref k :: st) σ τ = am_gf k 10 14 σ τ (fun v => am_run d 95 158 ls (v :: st) σ τ) := rr_getf dX10_person_155 (by decide +kernel)
theorem r95_158 (d : Nat) (st : List Value) (σ : am_St) (τ : Int64) (x : Nat) (v1 v2 v3 v4 v5 : Value) : am_run d 95 158 [.ref x, v1, v2, v3, v4, v5] st σ τ = am_run d 95 159 [.ref x, v1, v2, v3, v4, v5] (.ref x :: st) σ τ := rr_aload_n dX10_person_158 rfl
theorem r95_159 (d : Nat) (ls st : List Value) (σ : am_St) (τ : Int64) (k : Nat) : am_run d 95 159 ls (.ref k :: st) σ τ = am_gf k 10 6 σ τ (fun v => am_run d 95 162 ls (v :: st) σ τ) := rr_getf dX10_person_159 (by decide +kernel)
theorem r95_162 (d : Nat) (ls st : List Value) (σ : am_St) (τ : Int64) : am_run d 95 162 ls st σ τ = am_run d 95 163 ls (.int 1 :: st) σ τ := rr_iconst 1 dX10_person_162 (by decide)
theorem r95_163 (d : Nat) (ls st : List Value) (σ : am_St) (τ : Int64) (x i : Int32) (k : Nat) : am_run d 95 163 ls (.int x :: .int i :: .ref k :: st) σ τ = am_ai false k i (fun j => am_run d 95 164 ls st (am_up σ k j x) τ) := rr_iast dX10_person_163
theorem r95_164 (d : Nat) (st : List Value) (σ : am_St) (τ : Int64) (x : Nat) (v1 v2 v3 v4 v5 : Value) : am_run d 95 164 [.ref x, v1, v2, v3, v4, v5] st σ τ = am_run d 95 165 [.ref x, v1, v2, v3, v4, v5] (.ref x :: st) σ τ := rr_aload_n dX10_person_164 rfl
theorem r95_165 (d : Nat) (ls st : List Value) (σ : am_St) (τ : Int64) (k : Nat) : am_run d 95 165 ls (.ref k :: st) σ τ = am_gf k 10 15 σ τ (fun v => am_run d 95 168 ls (v :: st) σ τ) := rr_getf dX10_person_165 (by decide +kernel)
theorem r95_168 (d : Nat) (st : List Value) (σ : am_St) (τ : Int64) (x : Nat) (v1 v2 v3 v4 v5 : Value) : am_run d 95 168 [.ref x, v1, v2, v3, v4, v5] st σ τ = am_run d 95 169 [.ref x, v1, v2, v3, v4, v5] (.ref x :: st) σ τ := rr_aload_n dX10_person_168 rfl
theorem r95_169 (d : Nat) (ls st : List Value) (σ : am_St) (τ : Int64) (k : Nat) : am_run d 95 169 ls (.ref k :: st) σ τ = am_gf k 10 6 σ τ (fun v => am_run d 95 172 ls (v :: st) σ τ) := rr_getf dX10_person_169 (by decide +kernel)
theorem r95_172 (d : Nat) (st : List Value) (σ : am_St) (τ : Int64) (x : Int32) (v0 v1 v2 v4 v5 : Value) : am_run d 95 172 [v0, v1, v2, .int x, v4, v5] st σ τ = am_run d 95 173 [v0, v1, v2, .int x, v4, v5] (.int x :: st) σ τ := rr_iload_n dX10_person_172 rfl
theorem r95_173 (d : Nat) (ls st : List Value) (σ : am_St) (τ : Int64) : am_run d 95 173 ls st σ τ = am_run d 95 175 ls (.int (-2) :: st) σ τ := rr_bipush (-2) dX10_person_173 (by decide)
theorem r95_175 (d : Nat) (ls st : List Value) (σ : am_St) (τ : Int64) (x y : Int32) : am_run d 95 175 ls (.int y :: .int x :: st) σ τ = if x = y then am_run d 95 178 ls st σ τ else am_run d 95 185 ls st σ τ := (rr_icmp 185 dX10_person_175 (by decide)).trans am_seln
theorem r95_178 (d : Nat) (st : List Value) (σ : am_St) (τ : Int64) (x : Nat) (v1 v2 v3 v4 v5 : Value) : am_run d 95 178 [.ref x, v1, v2, v3, v4, v5] st σ τ = am_run d 95 179 [.ref x, v1, v2, v3, v4, v5] (.ref x :: st) σ τ := rr_aload_n dX10_person_178 rfl
theorem r95_179 (d : Nat) (ls st : List Value) (σ : am_St) (τ : Int64) (k : Nat)  (hk : am_kc k = 10) (hc : am_cats st ≤ 8) : am_run (d + 1) 95 179 ls (.ref k :: st) σ τ = (am_call d 93 [.ref k] σ τ).bind (fun r => am_run (d + 1) 95 182 ls (r.1.toList ++ st) r.2.1 r.2.2) := rr_invv [] dX10_person_179 (by decide +kernel) (by decide) rfl (Nat.le_of_ble_eq_true rfl) hk hc
theorem r95_182 (d : Nat) (ls st : List Value) (σ : am_St) (τ : Int64) : am_run d 95 182 ls st σ τ = am_run d 95 186 ls st σ τ := rr_goto 186 dX10_person_182 (by decide)
theorem r95_185 (d : Nat) (st : List Value) (σ : am_St) (τ : Int64) (x : Int32) (v0 v1 v2 v4 v5 : Value) : am_run d 95 185 [v0, v1, v2, .int x, v4, v5] st σ τ = am_run d 95 186 [v0, v1, v2, .int x, v4, v5] (.int x :: st) σ τ := rr_iload_n dX10_person_185 rfl
theorem r95_186 (d : Nat) (ls st : List Value) (σ : am_St) (τ : Int64) (x i : Int32) (k : Nat) : am_run d 95 186 ls (.int x :: .int i :: .ref k :: st) σ τ = am_ai false k i (fun j => am_run d 95 187 ls st (am_up σ k j x) τ) := rr_iast dX10_person_186
theorem r95_187 (d : Nat) (st : List Value) (σ : am_St) (τ : Int64) (x : Nat) (v1 v2 v3 v4 v5 : Value) : am_run d 95 187 [.ref x, v1, v2, v3, v4, v5] st σ τ = am_run d 95 188 [.ref x, v1, v2, v3, v4, v5] (.ref x :: st) σ τ := rr_aload_n dX10_person_187 rfl
theorem r95_188 (d : Nat) (ls st : List Value) (σ : am_St) (τ : Int64) (x : Nat) : am_run d 95 188 ls (.ref x :: st) σ τ = am_run d 95 189 ls (.ref x :: .ref x :: st) σ τ := rr_dup_r dX10_person_188
theorem r95_188i (d : Nat) (ls st : List Value) (σ : am_St) (τ : Int64) (x : Int32) : am_run d 95 188 ls (.int x :: st) σ τ = am_run d 95 189 ls (.int x :: .int x :: st) σ τ := rr_dup_i dX10_person_188
theorem r95_189 (d : Nat) (ls st : List Value) (σ : am_St) (τ : Int64) (k : Nat) : am_run d 95 189 ls (.ref k :: st) σ τ = am_gf k 10 7 σ τ (fun v => am_run d 95 192 ls (v :: st) σ τ) := rr_getf dX10_person_189 (by decide +kernel)
theorem r95_192 (d : Nat) (st : List Value) (σ : am_St) (τ : Int64) (x : Int32) (v0 v1 v2 v4 v5 : Value) : am_run d 95 192 [v0, v1, v2, .int x, v4, v5] st σ τ = am_run d 95 193 [v0, v1, v2, .int x, v4, v5] (.int x :: st) σ τ := rr_iload_n dX10_person_192 rfl
theorem r95_193 (d : Nat) (ls st : List Value) (σ : am_St) (τ : Int64) : am_run d 95 193 ls st σ τ = am_run d 95 195 ls (.int (-2) :: st) σ τ := rr_bipush (-2) dX10_person_193 (by decide)
theorem r95_195 (d : Nat) (ls st : List Value) (σ : am_St) (τ : Int64) (x y : Int32) : am_run d 95 195 ls (.int y :: .int x :: st) σ τ = if x = y then am_run d 95 198 ls st σ τ else am_run d 95 202 ls st σ τ := (rr_icmp 202 dX10_person_195 (by decide)).trans am_seln
theorem r95_198 (d : Nat) (ls st : List Value) (σ : am_St) (τ : Int64) : am_run d 95 198 ls st σ τ = am_run d 95 199 ls (.int 1 :: st) σ τ := rr_iconst 1 dX10_person_198 (by decide)
theorem r95_199 (d : Nat) (ls st : List Value) (σ : am_St) (τ : Int64) : am_run d 95 199 ls st σ τ = am_run d 95 203 ls st σ τ := rr_goto 203 dX10_person_199 (by decide)
theorem r95_202 (d : Nat) (ls st : List Value) (σ : am_St) (τ : Int64) : am_run d 95 202 ls st σ τ = am_run d 95 203 ls (.int 0 :: st) σ τ := rr_iconst 0 dX10_person_202 (by decide)
theorem r95_203 (d : Nat) (ls st : List Value) (σ : am_St) (τ : Int64) (x y : Int32) : am_run d 95 203 ls (.int y :: .int x :: st) σ τ = am_run d 95 204 ls (.int (x + y) :: st) σ τ := rr_iadd dX10_person_203
theorem r95_204 (d : Nat) (ls st : List Value) (σ : am_St) (τ : Int64) (k : Nat) (x : Int32) : am_run d 95 204 ls (.int x :: .ref k :: st) σ τ = am_pf k 10 7 x σ (fun σ => am_run d 95 207 ls st σ τ) := rr_putf dX10_person_204 (by decide +kernel)
theorem r95_207 (d : Nat) (st : List Value) (σ : am_St) (τ : Int64) (x : Nat) (v1 v2 v3 v4 v5 : Value) : am_run d 95 207 [.ref x, v1, v2, v3, v4, v5] st σ τ = am_run d 95 208 [.ref x, v1, v2, v3, v4, v5] (.ref x :: st) σ τ := rr_aload_n dX10_person_207 rfl
theorem r95_208 (d : Nat) (ls st : List Value) (σ : am_St) (τ : Int64) (x : Nat) : am_run d 95 208 ls (.ref x :: st) σ τ = am_run d 95 209 ls (.ref x :: .ref x :: st) σ τ := rr_dup_r dX10_person_208
theorem r95_208i (d : Nat) (ls st : List Value) (σ : am_St) (τ : Int64) (x : Int32) : am_run d 95 208 ls (.int x :: st) σ τ = am_run d 95 209 ls (.int x :: .int x :: st) σ τ := rr_dup_i dX10_person_208
theorem r95_209 (d : Nat) (ls st : List Value) (σ : am_St) (τ : Int64) (k : Nat) : am_run d 95 209 ls (.ref k :: st) σ τ = am_gf k 10 6 σ τ (fun v => am_run d 95 212 ls (v :: st) σ τ) := rr_getf dX10_person_209 (by decide +kernel)
theorem r95_212 (d : Nat) (ls st : List Value) (σ : am_St) (τ : Int64) : am_run d 95 212 ls st σ τ = am_run d 95 213 ls (.int 1 :: st) σ τ := rr_iconst 1 dX10_person_212 (by decide)
theorem r95_213 (d : Nat) (ls st : List Value) (σ : am_St) (τ : Int64) (x y : Int32) : am_run d 95 213 ls (.int y :: .int x :: st) σ τ = am_run d 95 214 ls (.int (x + y) :: st) σ τ := rr_iadd dX10_person_213
theorem r95_214 (d : Nat) (ls st : List Value) (σ : am_St) (τ : Int64) (k : Nat) (x : Int32) : am_run d 95 214 ls (.int x :: .ref k :: st) σ τ = am_pf k 10 6 x σ (fun σ => am_run d 95 217 ls st σ τ) := rr_putf dX10_person_214 (by decide +kernel)
theorem r95_217 (d : Nat) (st : List Value) (σ : am_St) (τ : Int64) (x : Nat) (v1 v2 v3 v4 v5 : Value) : am_run d 95 217 [.ref x, v1, v2, v3, v4, v5] st σ τ = am_run d 95 218 [.ref x, v1, v2, v3, v4, v5] (.ref x :: st) σ τ := rr_aload_n dX10_person_217 rfl
theorem r95_218 (d : Nat) (ls st : List Value) (σ : am_St) (τ : Int64) (k : Nat) : am_run d 95 218 ls (.ref k :: st) σ τ = am_gf k 10 6 σ τ (fun v => am_run d 95 221 ls (v :: st) σ τ) := rr_getf dX10_person_218 (by decide +kernel)
theorem r95_221 (d : Nat) (ls st : List Value) (σ : am_St) (τ : Int64) : am_run d 95 221 ls st σ τ = am_run d 95 222 ls (.int 1 :: st) σ τ := rr_iconst 1 dX10_person_221 (by decide)
theorem r95_222 (d : Nat) (ls st : List Value) (σ : am_St) (τ : Int64) (x y : Int32) : am_run d 95 222 ls (.int y :: .int x :: st) σ τ = am_run d 95 223 ls (.int (x - y) :: st) σ τ := rr_isub dX10_person_222
theorem r95_223 (d : Nat) (ls : List Value) (σ : am_St) (τ : Int64) (x : Int32) : am_run d 95 223 ls [.int x] σ τ = some (some (.int x), σ, τ) := rr_iret dX10_person_223 rfl
theorem dX10_nameBy_0 : decode (am_code 96) 0 = .ok (.aload_n 0, 1) := by decide +kernel
theorem dX10_nameBy_1 : decode (am_code 96) 1 = .ok (.getfield 46, 3) := by decide +kernel
theorem dX10_nameBy_4 : decode (am_code 96) 4 = .ok (.iload_n 2, 1) := by decide +kernel
theorem dX10_nameBy_5 : decode (am_code 96) 5 = .ok (.iaload, 1) := by decide +kernel
theorem dX10_nameBy_6 : decode (am_code 96) 6 = .ok (.istore_n 3, 1) := by decide +kernel
theorem dX10_nameBy_7 : decode (am_code 96) 7 = .ok (.aload_n 0, 1) := by decide +kernel
theorem dX10_nameBy_8 : decode (am_code 96) 8 = .ok (.getfield 28, 3) := by decide +kernel
theorem dX10_nameBy_11 : decode (am_code 96) 11 = .ok (.iload_n 2, 1) := by decide +kernel
theorem dX10_nameBy_12 : decode (am_code 96) 12 = .ok (.iaload, 1) := by decide +kernel
theorem dX10_nameBy_13 : decode (am_code 96) 13 = .ok (.istore 4, 2) := by decide +kernel
theorem dX10_nameBy_15 : decode (am_code 96) 15 = .ok (.iload_n 1, 1) := by decide +kernel
theorem dX10_nameBy_16 : decode (am_code 96) 16 = .ok (.tableswitch 72 0 2 #[28, 35, 43], 28) := by decide +kernel
theorem dX10_nameBy_44 : decode (am_code 96) 44 = .ok (.aload_n 0, 1) := by decide +kernel
theorem dX10_nameBy_45 : decode (am_code 96) 45 = .ok (.getfield 43, 3) := by decide +kernel
theorem dX10_nameBy_48 : decode (am_code 96) 48 = .ok (.iload_n 3, 1) := by decide +kernel
theorem dX10_nameBy_49 : decode (am_code 96) 49 = .ok (.iaload, 1) := by decide +kernel
theorem dX10_nameBy_50 : decode (am_code 96) 50 = .ok (.ireturn, 1) := by decide +kernel
theorem dX10_nameBy_51 : decode (am_code 96) 51 = .ok (.aload_n 0, 1) := by decide +kernel
theorem dX10_nameBy_52 : decode (am_code 96) 52 = .ok (.getfield 43, 3) := by decide +kernel
theorem dX10_nameBy_55 : decode (am_code 96) 55 = .ok (.iload 4, 2) := by decide +kernel
theorem dX10_nameBy_57 : decode (am_code 96) 57 = .ok (.iaload, 1) := by decide +kernel
theorem dX10_nameBy_58 : decode (am_code 96) 58 = .ok (.ireturn, 1) := by decide +kernel
theorem dX10_nameBy_59 : decode (am_code 96) 59 = .ok (.aload_n 0, 1) := by decide +kernel
theorem dX10_nameBy_60 : decode (am_code 96) 60 = .ok (.getfield 43, 3) := by decide +kernel
theorem dX10_nameBy_63 : decode (am_code 96) 63 = .ok (.aload_n 0, 1) := by decide +kernel
theorem dX10_nameBy_64 : decode (am_code 96) 64 = .ok (.getfield 28, 3) := by decide +kernel
theorem dX10_nameBy_67 : decode (am_code 96) 67 = .ok (.iload 4, 2) := by decide +kernel
theorem dX10_nameBy_69 : decode (am_code 96) 69 = .ok (.iaload, 1) := by decide +kernel
theorem dX10_nameBy_70 : decode (am_code 96) 70 = .ok (.iconst (-1), 1) := by decide +kernel
theorem dX10_nameBy_71 : decode (am_code 96) 71 = .ok (.if_icmp .ne 8, 3) := by decide +kernel
theorem dX10_nameBy_74 : decode (am_code 96) 74 = .ok (.iload 4, 2) := by decide +kernel
theorem dX10_nameBy_76 : decode (am_code 96) 76 = .ok (.goto 10, 3) := by decide +kernel
theorem dX10_nameBy_79 : decode (am_code 96) 79 = .ok (.aload_n 0, 1) := by decide +kernel
theorem dX10_nameBy_80 : decode (am_code 96) 80 = .ok (.getfield 28, 3) := by decide +kernel
theorem dX10_nameBy_83 : decode (am_code 96) 83 = .ok (.iload 4, 2) := by decide +kernel
theorem dX10_nameBy_85 : decode (am_code 96) 85 = .ok (.iaload, 1) := by decide +kernel
theorem dX10_nameBy_86 : decode (am_code 96) 86 = .ok (.iaload, 1) := by decide +kernel
theorem dX10_nameBy_87 : decode (am_code 96) 87 = .ok (.ireturn, 1) := by decide +kernel
theorem dX10_nameBy_88 : decode (am_code 96) 88 = .ok (.aload_n 0, 1) := by decide +kernel
theorem dX10_nameBy_89 : decode (am_code 96) 89 = .ok (.getfield 43, 3) := by decide +kernel
theorem dX10_nameBy_92 : decode (am_code 96) 92 = .ok (.aload_n 0, 1) := by decide +kernel
theorem dX10_nameBy_93 : decode (am_code 96) 93 = .ok (.getfield 28, 3) := by decide +kernel
theorem dX10_nameBy_96 : decode (am_code 96) 96 = .ok (.iload_n 3, 1) := by decide +kernel
theorem dX10_nameBy_97 : decode (am_code 96) 97 = .ok (.iaload, 1) := by decide +kernel
theorem dX10_nameBy_98 : decode (am_code 96) 98 = .ok (.iconst (-1), 1) := by decide +kernel
theorem dX10_nameBy_99 : decode (am_code 96) 99 = .ok (.if_icmp .ne 7, 3) := by decide +kernel
theorem dX10_nameBy_102 : decode (am_code 96) 102 = .ok (.iload_n 3, 1) := by decide +kernel
theorem dX10_nameBy_103 : decode (am_code 96) 103 = .ok (.goto 9, 3) := by decide +kernel
theorem dX10_nameBy_106 : decode (am_code 96) 106 = .ok (.aload_n 0, 1) := by decide +kernel
theorem dX10_nameBy_107 : decode (am_code 96) 107 = .ok (.getfield 28, 3) := by decide +kernel
theorem dX10_nameBy_110 : decode (am_code 96) 110 = .ok (.iload_n 3, 1) := by decide +kernel
theorem dX10_nameBy_111 : decode (am_code 96) 111 = .ok (.iaload, 1) := by decide +kernel
theorem dX10_nameBy_112 : decode (am_code 96) 112 = .ok (.iaload, 1) := by decide +kernel
theorem dX10_nameBy_113 : decode (am_code 96) 113 = .ok (.ireturn, 1) := by decide +kernel
theorem r96_0 (d : Nat) (st : List Value) (σ : am_St) (τ : Int64) (x : Nat) (v1 v2 v3 v4 : Value) : am_run d 96 0 [.ref x, v1, v2, v3, v4] st σ τ = am_run d 96 1 [.ref x, v1, v2, v3, v4] (.ref x :: st) σ τ := rr_aload_n dX10_nameBy_0 rfl
theorem r96_1 (d : Nat) (ls st : List Value) (σ : am_St) (τ : Int64) (k : Nat) : am_run d 96 1 ls (.ref k :: st) σ τ = am_gf k 10 17 σ τ (fun v => am_run d 96 4 ls (v :: st) σ τ) := rr_getf dX10_nameBy_1 (by decide +kernel)
theorem r96_4 (d : Nat) (st : List Value) (σ : am_St) (τ : Int64) (x : Int32) (v0 v1 v3 v4 : Value) : am_run d 96 4 [v0, v1, .int x, v3, v4] st σ τ = am_run d 96 5 [v0, v1, .int x, v3, v4] (.int x :: st) σ τ := rr_iload_n dX10_nameBy_4 rfl
theorem r96_5 (d : Nat) (ls st : List Value) (σ : am_St) (τ : Int64) (i : Int32) (k : Nat) : am_run d 96 5 ls (.int i :: .ref k :: st) σ τ = am_ai false k i (fun j => am_run d 96 6 ls (.int (σ k j) :: st) σ τ) := rr_iald dX10_nameBy_5
theorem r96_6 (d : Nat) (st : List Value) (σ : am_St) (τ : Int64) (x : Int32) (v0 v1 v2 v3 v4 : Value) : am_run d 96 6 [v0, v1, v2, v3, v4] (.int x :: st) σ τ = am_run d 96 7 [v0, v1, am_nl v2, .int x, v4] st σ τ := rr_istore_n _ dX10_nameBy_6 (by decide) (by first | rfl | (by_cases h : v2.category = 2 <;> simp [am_set1, am_nl, h]))
theorem r96_7 (d : Nat) (st : List Value) (σ : am_St) (τ : Int64) (x : Nat) (v1 v2 v3 v4 : Value) : am_run d 96 7 [.ref x, v1, v2, v3, v4] st σ τ = am_run d 96 8 [.ref x, v1, v2, v3, v4] (.ref x :: st) σ τ := rr_aload_n dX10_nameBy_7 rfl
theorem r96_8 (d : Nat) (ls st : List Value) (σ : am_St) (τ : Int64) (k : Nat) : am_run d 96 8 ls (.ref k :: st) σ τ = am_gf k 10 11 σ τ (fun v => am_run d 96 11 ls (v :: st) σ τ) := rr_getf dX10_nameBy_8 (by decide +kernel)
theorem r96_11 (d : Nat) (st : List Value) (σ : am_St) (τ : Int64) (x : Int32) (v0 v1 v3 v4 : Value) : am_run d 96 11 [v0, v1, .int x, v3, v4] st σ τ = am_run d 96 12 [v0, v1, .int x, v3, v4] (.int x :: st) σ τ := rr_iload_n dX10_nameBy_11 rfl
theorem r96_12 (d : Nat) (ls st : List Value) (σ : am_St) (τ : Int64) (i : Int32) (k : Nat) : am_run d 96 12 ls (.int i :: .ref k :: st) σ τ = am_ai false k i (fun j => am_run d 96 13 ls (.int (σ k j) :: st) σ τ) := rr_iald dX10_nameBy_12
theorem r96_13 (d : Nat) (st : List Value) (σ : am_St) (τ : Int64) (x : Int32) (v0 v1 v2 v3 v4 : Value) : am_run d 96 13 [v0, v1, v2, v3, v4] (.int x :: st) σ τ = am_run d 96 15 [v0, v1, v2, am_nl v3, .int x] st σ τ := rr_istore _ dX10_nameBy_13 (by decide) (by first | rfl | (by_cases h : v3.category = 2 <;> simp [am_set1, am_nl, h]))
theorem r96_15 (d : Nat) (st : List Value) (σ : am_St) (τ : Int64) (x : Int32) (v0 v2 v3 v4 : Value) : am_run d 96 15 [v0, .int x, v2, v3, v4] st σ τ = am_run d 96 16 [v0, .int x, v2, v3, v4] (.int x :: st) σ τ := rr_iload_n dX10_nameBy_15 rfl
theorem r96_16 (d : Nat) (ls st : List Value) (σ : am_St) (τ : Int64) (x : Int32) : am_run d 96 16 ls (.int x :: st) σ τ = am_run d 96 (am_sw x 0 [44, 51, 59] 88) ls st σ τ := rr_tsw [44, 51, 59] 88 dX10_nameBy_16 (by decide) (by decide) (by decide)
theorem r96_44 (d : Nat) (st : List Value) (σ : am_St) (τ : Int64) (x : Nat) (v1 v2 v3 v4 : Value) : am_run d 96 44 [.ref x, v1, v2, v3, v4] st σ τ = am_run d 96 45 [.ref x, v1, v2, v3, v4] (.ref x :: st) σ τ := rr_aload_n dX10_nameBy_44 rfl
theorem r96_45 (d : Nat) (ls st : List Value) (σ : am_St) (τ : Int64) (k : Nat) : am_run d 96 45 ls (.ref k :: st) σ τ = am_gf k 10 16 σ τ (fun v => am_run d 96 48 ls (v :: st) σ τ) := rr_getf dX10_nameBy_45 (by decide +kernel)
theorem r96_48 (d : Nat) (st : List Value) (σ : am_St) (τ : Int64) (x : Int32) (v0 v1 v2 v4 : Value) : am_run d 96 48 [v0, v1, v2, .int x, v4] st σ τ = am_run d 96 49 [v0, v1, v2, .int x, v4] (.int x :: st) σ τ := rr_iload_n dX10_nameBy_48 rfl
theorem r96_49 (d : Nat) (ls st : List Value) (σ : am_St) (τ : Int64) (i : Int32) (k : Nat) : am_run d 96 49 ls (.int i :: .ref k :: st) σ τ = am_ai false k i (fun j => am_run d 96 50 ls (.int (σ k j) :: st) σ τ) := rr_iald dX10_nameBy_49
theorem r96_50 (d : Nat) (ls : List Value) (σ : am_St) (τ : Int64) (x : Int32) : am_run d 96 50 ls [.int x] σ τ = some (some (.int x), σ, τ) := rr_iret dX10_nameBy_50 rfl
theorem r96_51 (d : Nat) (st : List Value) (σ : am_St) (τ : Int64) (x : Nat) (v1 v2 v3 v4 : Value) : am_run d 96 51 [.ref x, v1, v2, v3, v4] st σ τ = am_run d 96 52 [.ref x, v1, v2, v3, v4] (.ref x :: st) σ τ := rr_aload_n dX10_nameBy_51 rfl
theorem r96_52 (d : Nat) (ls st : List Value) (σ : am_St) (τ : Int64) (k : Nat) : am_run d 96 52 ls (.ref k :: st) σ τ = am_gf k 10 16 σ τ (fun v => am_run d 96 55 ls (v :: st) σ τ) := rr_getf dX10_nameBy_52 (by decide +kernel)
theorem r96_55 (d : Nat) (st : List Value) (σ : am_St) (τ : Int64) (x : Int32) (v0 v1 v2 v3 : Value) : am_run d 96 55 [v0, v1, v2, v3, .int x] st σ τ = am_run d 96 57 [v0, v1, v2, v3, .int x] (.int x :: st) σ τ := rr_iload dX10_nameBy_55 rfl
theorem r96_57 (d : Nat) (ls st : List Value) (σ : am_St) (τ : Int64) (i : Int32) (k : Nat) : am_run d 96 57 ls (.int i :: .ref k :: st) σ τ = am_ai false k i (fun j => am_run d 96 58 ls (.int (σ k j) :: st) σ τ) := rr_iald dX10_nameBy_57
theorem r96_58 (d : Nat) (ls : List Value) (σ : am_St) (τ : Int64) (x : Int32) : am_run d 96 58 ls [.int x] σ τ = some (some (.int x), σ, τ) := rr_iret dX10_nameBy_58 rfl
theorem r96_59 (d : Nat) (st : List Value) (σ : am_St) (τ : Int64) (x : Nat) (v1 v2 v3 v4 : Value) : am_run d 96 59 [.ref x, v1, v2, v3, v4] st σ τ = am_run d 96 60 [.ref x, v1, v2, v3, v4] (.ref x :: st) σ τ := rr_aload_n dX10_nameBy_59 rfl
theorem r96_60 (d : Nat) (ls st : List Value) (σ : am_St) (τ : Int64) (k : Nat) : am_run d 96 60 ls (.ref k :: st) σ τ = am_gf k 10 16 σ τ (fun v => am_run d 96 63 ls (v :: st) σ τ) := rr_getf dX10_nameBy_60 (by decide +kernel)
theorem r96_63 (d : Nat) (st : List Value) (σ : am_St) (τ : Int64) (x : Nat) (v1 v2 v3 v4 : Value) : am_run d 96 63 [.ref x, v1, v2, v3, v4] st σ τ = am_run d 96 64 [.ref x, v1, v2, v3, v4] (.ref x :: st) σ τ := rr_aload_n dX10_nameBy_63 rfl
theorem r96_64 (d : Nat) (ls st : List Value) (σ : am_St) (τ : Int64) (k : Nat) : am_run d 96 64 ls (.ref k :: st) σ τ = am_gf k 10 11 σ τ (fun v => am_run d 96 67 ls (v :: st) σ τ) := rr_getf dX10_nameBy_64 (by decide +kernel)
theorem r96_67 (d : Nat) (st : List Value) (σ : am_St) (τ : Int64) (x : Int32) (v0 v1 v2 v3 : Value) : am_run d 96 67 [v0, v1, v2, v3, .int x] st σ τ = am_run d 96 69 [v0, v1, v2, v3, .int x] (.int x :: st) σ τ := rr_iload dX10_nameBy_67 rfl
theorem r96_69 (d : Nat) (ls st : List Value) (σ : am_St) (τ : Int64) (i : Int32) (k : Nat) : am_run d 96 69 ls (.int i :: .ref k :: st) σ τ = am_ai false k i (fun j => am_run d 96 70 ls (.int (σ k j) :: st) σ τ) := rr_iald dX10_nameBy_69
theorem r96_70 (d : Nat) (ls st : List Value) (σ : am_St) (τ : Int64) : am_run d 96 70 ls st σ τ = am_run d 96 71 ls (.int (-1) :: st) σ τ := rr_iconst (-1) dX10_nameBy_70 (by decide)
theorem r96_71 (d : Nat) (ls st : List Value) (σ : am_St) (τ : Int64) (x y : Int32) : am_run d 96 71 ls (.int y :: .int x :: st) σ τ = if x = y then am_run d 96 74 ls st σ τ else am_run d 96 79 ls st σ τ := (rr_icmp 79 dX10_nameBy_71 (by decide)).trans am_seln
theorem r96_74 (d : Nat) (st : List Value) (σ : am_St) (τ : Int64) (x : Int32) (v0 v1 v2 v3 : Value) : am_run d 96 74 [v0, v1, v2, v3, .int x] st σ τ = am_run d 96 76 [v0, v1, v2, v3, .int x] (.int x :: st) σ τ := rr_iload dX10_nameBy_74 rfl
theorem r96_76 (d : Nat) (ls st : List Value) (σ : am_St) (τ : Int64) : am_run d 96 76 ls st σ τ = am_run d 96 86 ls st σ τ := rr_goto 86 dX10_nameBy_76 (by decide)
theorem r96_79 (d : Nat) (st : List Value) (σ : am_St) (τ : Int64) (x : Nat) (v1 v2 v3 v4 : Value) : am_run d 96 79 [.ref x, v1, v2, v3, v4] st σ τ = am_run d 96 80 [.ref x, v1, v2, v3, v4] (.ref x :: st) σ τ := rr_aload_n dX10_nameBy_79 rfl
theorem r96_80 (d : Nat) (ls st : List Value) (σ : am_St) (τ : Int64) (k : Nat) : am_run d 96 80 ls (.ref k :: st) σ τ = am_gf k 10 11 σ τ (fun v => am_run d 96 83 ls (v :: st) σ τ) := rr_getf dX10_nameBy_80 (by decide +kernel)
theorem r96_83 (d : Nat) (st : List Value) (σ : am_St) (τ : Int64) (x : Int32) (v0 v1 v2 v3 : Value) : am_run d 96 83 [v0, v1, v2, v3, .int x] st σ τ = am_run d 96 85 [v0, v1, v2, v3, .int x] (.int x :: st) σ τ := rr_iload dX10_nameBy_83 rfl
theorem r96_85 (d : Nat) (ls st : List Value) (σ : am_St) (τ : Int64) (i : Int32) (k : Nat) : am_run d 96 85 ls (.int i :: .ref k :: st) σ τ = am_ai false k i (fun j => am_run d 96 86 ls (.int (σ k j) :: st) σ τ) := rr_iald dX10_nameBy_85
theorem r96_86 (d : Nat) (ls st : List Value) (σ : am_St) (τ : Int64) (i : Int32) (k : Nat) : am_run d 96 86 ls (.int i :: .ref k :: st) σ τ = am_ai false k i (fun j => am_run d 96 87 ls (.int (σ k j) :: st) σ τ) := rr_iald dX10_nameBy_86
theorem r96_87 (d : Nat) (ls : List Value) (σ : am_St) (τ : Int64) (x : Int32) : am_run d 96 87 ls [.int x] σ τ = some (some (.int x), σ, τ) := rr_iret dX10_nameBy_87 rfl
theorem r96_88 (d : Nat) (st : List Value) (σ : am_St) (τ : Int64) (x : Nat) (v1 v2 v3 v4 : Value) : am_run d 96 88 [.ref x, v1, v2, v3, v4] st σ τ = am_run d 96 89 [.ref x, v1, v2, v3, v4] (.ref x :: st) σ τ := rr_aload_n dX10_nameBy_88 rfl
theorem r96_89 (d : Nat) (ls st : List Value) (σ : am_St) (τ : Int64) (k : Nat) : am_run d 96 89 ls (.ref k :: st) σ τ = am_gf k 10 16 σ τ (fun v => am_run d 96 92 ls (v :: st) σ τ) := rr_getf dX10_nameBy_89 (by decide +kernel)
theorem r96_92 (d : Nat) (st : List Value) (σ : am_St) (τ : Int64) (x : Nat) (v1 v2 v3 v4 : Value) : am_run d 96 92 [.ref x, v1, v2, v3, v4] st σ τ = am_run d 96 93 [.ref x, v1, v2, v3, v4] (.ref x :: st) σ τ := rr_aload_n dX10_nameBy_92 rfl
theorem r96_93 (d : Nat) (ls st : List Value) (σ : am_St) (τ : Int64) (k : Nat) : am_run d 96 93 ls (.ref k :: st) σ τ = am_gf k 10 11 σ τ (fun v => am_run d 96 96 ls (v :: st) σ τ) := rr_getf dX10_nameBy_93 (by decide +kernel)
theorem r96_96 (d : Nat) (st : List Value) (σ : am_St) (τ : Int64) (x : Int32) (v0 v1 v2 v4 : Value) : am_run d 96 96 [v0, v1, v2, .int x, v4] st σ τ = am_run d 96 97 [v0, v1, v2, .int x, v4] (.int x :: st) σ τ := rr_iload_n dX10_nameBy_96 rfl
theorem r96_97 (d : Nat) (ls st : List Value) (σ : am_St) (τ : Int64) (i : Int32) (k : Nat) : am_run d 96 97 ls (.int i :: .ref k :: st) σ τ = am_ai false k i (fun j => am_run d 96 98 ls (.int (σ k j) :: st) σ τ) := rr_iald dX10_nameBy_97
theorem r96_98 (d : Nat) (ls st : List Value) (σ : am_St) (τ : Int64) : am_run d 96 98 ls st σ τ = am_run d 96 99 ls (.int (-1) :: st) σ τ := rr_iconst (-1) dX10_nameBy_98 (by decide)
theorem r96_99 (d : Nat) (ls st : List Value) (σ : am_St) (τ : Int64) (x y : Int32) : am_run d 96 99 ls (.int y :: .int x :: st) σ τ = if x = y then am_run d 96 102 ls st σ τ else am_run d 96 106 ls st σ τ := (rr_icmp 106 dX10_nameBy_99 (by decide)).trans am_seln
theorem r96_102 (d : Nat) (st : List Value) (σ : am_St) (τ : Int64) (x : Int32) (v0 v1 v2 v4 : Value) : am_run d 96 102 [v0, v1, v2, .int x, v4] st σ τ = am_run d 96 103 [v0, v1, v2, .int x, v4] (.int x :: st) σ τ := rr_iload_n dX10_nameBy_102 rfl
theorem r96_103 (d : Nat) (ls st : List Value) (σ : am_St) (τ : Int64) : am_run d 96 103 ls st σ τ = am_run d 96 112 ls st σ τ := rr_goto 112 dX10_nameBy_103 (by decide)
theorem r96_106 (d : Nat) (st : List Value) (σ : am_St) (τ : Int64) (x : Nat) (v1 v2 v3 v4 : Value) : am_run d 96 106 [.ref x, v1, v2, v3, v4] st σ τ = am_run d 96 107 [.ref x, v1, v2, v3, v4] (.ref x :: st) σ τ := rr_aload_n dX10_nameBy_106 rfl
theorem r96_107 (d : Nat) (ls st : List Value) (σ : am_St) (τ : Int64) (k : Nat) : am_run d 96 107 ls (.ref k :: st) σ τ = am_gf k 10 11 σ τ (fun v => am_run d 96 110 ls (v :: st) σ τ) := rr_getf dX10_nameBy_107 (by decide +kernel)
theorem r96_110 (d : Nat) (st : List Value) (σ : am_St) (τ : Int64) (x : Int32) (v0 v1 v2 v4 : Value) : am_run d 96 110 [v0, v1, v2, .int x, v4] st σ τ = am_run d 96 111 [v0, v1, v2, .int x, v4] (.int x :: st) σ τ := rr_iload_n dX10_nameBy_110 rfl
theorem r96_111 (d : Nat) (ls st : List Value) (σ : am_St) (τ : Int64) (i : Int32) (k : Nat) : am_run d 96 111 ls (.int i :: .ref k :: st) σ τ = am_ai false k i (fun j => am_run d 96 112 ls (.int (σ k j) :: st) σ τ) := rr_iald dX10_nameBy_111
theorem r96_112 (d : Nat) (ls st : List Value) (σ : am_St) (τ : Int64) (i : Int32) (k : Nat) : am_run d 96 112 ls (.int i :: .ref k :: st) σ τ = am_ai false k i (fun j => am_run d 96 113 ls (.int (σ k j) :: st) σ τ) := rr_iald dX10_nameBy_112
theorem r96_113 (d : Nat) (ls : List Value) (σ : am_St) (τ : Int64) (x : Int32) : am_run d 96 113 ls [.int x] σ τ = some (some (.int x), σ, τ) := rr_iret dX10_nameBy_113 rfl
theorem dX10_rowOf_0 : decode (am_code 97) 0 = .ok (.iconst 1, 1) := by decide +kernel
theorem dX10_rowOf_1 : decode (am_code 97) 1 = .ok (.istore_n 3, 1) := by decide +kernel
theorem dX10_rowOf_2 : decode (am_code 97) 2 = .ok (.aload_n 0, 1) := by decide +kernel
theorem dX10_rowOf_3 : decode (am_code 97) 3 = .ok (.getfield 46, 3) := by decide +kernel
theorem dX10_rowOf_6 : decode (am_code 97) 6 = .ok (.iload_n 1, 1) := by decide +kernel
theorem dX10_rowOf_7 : decode (am_code 97) 7 = .ok (.iaload, 1) := by decide +kernel
theorem dX10_rowOf_8 : decode (am_code 97) 8 = .ok (.istore 4, 2) := by decide +kernel
theorem dX10_rowOf_10 : decode (am_code 97) 10 = .ok (.iload 4, 2) := by decide +kernel
theorem dX10_rowOf_12 : decode (am_code 97) 12 = .ok (.iconst (-1), 1) := by decide +kernel
theorem dX10_rowOf_13 : decode (am_code 97) 13 = .ok (.if_icmp .eq 29, 3) := by decide +kernel
theorem dX10_rowOf_16 : decode (am_code 97) 16 = .ok (.aload_n 0, 1) := by decide +kernel
theorem dX10_rowOf_17 : decode (am_code 97) 17 = .ok (.getfield 43, 3) := by decide +kernel
theorem dX10_rowOf_20 : decode (am_code 97) 20 = .ok (.iload 4, 2) := by decide +kernel
theorem dX10_rowOf_22 : decode (am_code 97) 22 = .ok (.iaload, 1) := by decide +kernel
theorem dX10_rowOf_23 : decode (am_code 97) 23 = .ok (.iload_n 2, 1) := by decide +kernel
theorem dX10_rowOf_24 : decode (am_code 97) 24 = .ok (.if_icmp .ne 18, 3) := by decide +kernel
theorem dX10_rowOf_27 : decode (am_code 97) 27 = .ok (.iinc 3 1, 3) := by decide +kernel
theorem dX10_rowOf_30 : decode (am_code 97) 30 = .ok (.aload_n 0, 1) := by decide +kernel
theorem dX10_rowOf_31 : decode (am_code 97) 31 = .ok (.getfield 46, 3) := by decide +kernel
theorem dX10_rowOf_34 : decode (am_code 97) 34 = .ok (.iload 4, 2) := by decide +kernel
theorem dX10_rowOf_36 : decode (am_code 97) 36 = .ok (.iaload, 1) := by decide +kernel
theorem dX10_rowOf_37 : decode (am_code 97) 37 = .ok (.istore 4, 2) := by decide +kernel
theorem dX10_rowOf_39 : decode (am_code 97) 39 = .ok (.goto (-29), 3) := by decide +kernel
theorem dX10_rowOf_42 : decode (am_code 97) 42 = .ok (.iload_n 3, 1) := by decide +kernel
theorem dX10_rowOf_43 : decode (am_code 97) 43 = .ok (.ireturn, 1) := by decide +kernel
theorem r97_0 (d : Nat) (ls st : List Value) (σ : am_St) (τ : Int64) : am_run d 97 0 ls st σ τ = am_run d 97 1 ls (.int 1 :: st) σ τ := rr_iconst 1 dX10_rowOf_0 (by decide)
theorem r97_1 (d : Nat) (st : List Value) (σ : am_St) (τ : Int64) (x : Int32) (v0 v1 v2 v3 v4 : Value) : am_run d 97 1 [v0, v1, v2, v3, v4] (.int x :: st) σ τ = am_run d 97 2 [v0, v1, am_nl v2, .int x, v4] st σ τ := rr_istore_n _ dX10_rowOf_1 (by decide) (by first | rfl | (by_cases h : v2.category = 2 <;> simp [am_set1, am_nl, h]))
theorem r97_2 (d : Nat) (st : List Value) (σ : am_St) (τ : Int64) (x : Nat) (v1 v2 v3 v4 : Value) : am_run d 97 2 [.ref x, v1, v2, v3, v4] st σ τ = am_run d 97 3 [.ref x, v1, v2, v3, v4] (.ref x :: st) σ τ := rr_aload_n dX10_rowOf_2 rfl
theorem r97_3 (d : Nat) (ls st : List Value) (σ : am_St) (τ : Int64) (k : Nat) : am_run d 97 3 ls (.ref k :: st) σ τ = am_gf k 10 17 σ τ (fun v => am_run d 97 6 ls (v :: st) σ τ) := rr_getf dX10_rowOf_3 (by decide +kernel)
theorem r97_6 (d : Nat) (st : List Value) (σ : am_St) (τ : Int64) (x : Int32) (v0 v2 v3 v4 : Value) : am_run d 97 6 [v0, .int x, v2, v3, v4] st σ τ = am_run d 97 7 [v0, .int x, v2, v3, v4] (.int x :: st) σ τ := rr_iload_n dX10_rowOf_6 rfl
theorem r97_7 (d : Nat) (ls st : List Value) (σ : am_St) (τ : Int64) (i : Int32) (k : Nat) : am_run d 97 7 ls (.int i :: .ref k :: st) σ τ = am_ai false k i (fun j => am_run d 97 8 ls (.int (σ k j) :: st) σ τ) := rr_iald dX10_rowOf_7
theorem r97_8 (d : Nat) (st : List Value) (σ : am_St) (τ : Int64) (x : Int32) (v0 v1 v2 v3 v4 : Value) : am_run d 97 8 [v0, v1, v2, v3, v4] (.int x :: st) σ τ = am_run d 97 10 [v0, v1, v2, am_nl v3, .int x] st σ τ := rr_istore _ dX10_rowOf_8 (by decide) (by first | rfl | (by_cases h : v3.category = 2 <;> simp [am_set1, am_nl, h]))
theorem r97_10 (d : Nat) (st : List Value) (σ : am_St) (τ : Int64) (x : Int32) (v0 v1 v2 v3 : Value) : am_run d 97 10 [v0, v1, v2, v3, .int x] st σ τ = am_run d 97 12 [v0, v1, v2, v3, .int x] (.int x :: st) σ τ := rr_iload dX10_rowOf_10 rfl
theorem r97_12 (d : Nat) (ls st : List Value) (σ : am_St) (τ : Int64) : am_run d 97 12 ls st σ τ = am_run d 97 13 ls (.int (-1) :: st) σ τ := rr_iconst (-1) dX10_rowOf_12 (by decide)
theorem r97_13 (d : Nat) (ls st : List Value) (σ : am_St) (τ : Int64) (x y : Int32) : am_run d 97 13 ls (.int y :: .int x :: st) σ τ = if x = y then am_run d 97 42 ls st σ τ else am_run d 97 16 ls st σ τ := (rr_icmp 42 dX10_rowOf_13 (by decide)).trans am_sel
theorem r97_16 (d : Nat) (st : List Value) (σ : am_St) (τ : Int64) (x : Nat) (v1 v2 v3 v4 : Value) : am_run d 97 16 [.ref x, v1, v2, v3, v4] st σ τ = am_run d 97 17 [.ref x, v1, v2, v3, v4] (.ref x :: st) σ τ := rr_aload_n dX10_rowOf_16 rfl
theorem r97_17 (d : Nat) (ls st : List Value) (σ : am_St) (τ : Int64) (k : Nat) : am_run d 97 17 ls (.ref k :: st) σ τ = am_gf k 10 16 σ τ (fun v => am_run d 97 20 ls (v :: st) σ τ) := rr_getf dX10_rowOf_17 (by decide +kernel)
theorem r97_20 (d : Nat) (st : List Value) (σ : am_St) (τ : Int64) (x : Int32) (v0 v1 v2 v3 : Value) : am_run d 97 20 [v0, v1, v2, v3, .int x] st σ τ = am_run d 97 22 [v0, v1, v2, v3, .int x] (.int x :: st) σ τ := rr_iload dX10_rowOf_20 rfl
theorem r97_22 (d : Nat) (ls st : List Value) (σ : am_St) (τ : Int64) (i : Int32) (k : Nat) : am_run d 97 22 ls (.int i :: .ref k :: st) σ τ = am_ai false k i (fun j => am_run d 97 23 ls (.int (σ k j) :: st) σ τ) := rr_iald dX10_rowOf_22
theorem r97_23 (d : Nat) (st : List Value) (σ : am_St) (τ : Int64) (x : Int32) (v0 v1 v3 v4 : Value) : am_run d 97 23 [v0, v1, .int x, v3, v4] st σ τ = am_run d 97 24 [v0, v1, .int x, v3, v4] (.int x :: st) σ τ := rr_iload_n dX10_rowOf_23 rfl
theorem r97_24 (d : Nat) (ls st : List Value) (σ : am_St) (τ : Int64) (x y : Int32) : am_run d 97 24 ls (.int y :: .int x :: st) σ τ = if x = y then am_run d 97 27 ls st σ τ else am_run d 97 42 ls st σ τ := (rr_icmp 42 dX10_rowOf_24 (by decide)).trans am_seln
theorem r97_27 (d : Nat) (st : List Value) (σ : am_St) (τ : Int64) (x : Int32) (v0 v1 v2 v4 : Value) : am_run d 97 27 [v0, v1, v2, .int x, v4] st σ τ = am_run d 97 30 [v0, v1, am_nl v2, .int (x + 1), v4] st σ τ := rr_iinc 1 _ dX10_rowOf_27 rfl (by decide) (by decide) (by first | rfl | (by_cases h : v2.category = 2 <;> simp [am_set1, am_nl, h]))
theorem r97_30 (d : Nat) (st : List Value) (σ : am_St) (τ : Int64) (x : Nat) (v1 v2 v3 v4 : Value) : am_run d 97 30 [.ref x, v1, v2, v3, v4] st σ τ = am_run d 97 31 [.ref x, v1, v2, v3, v4] (.ref x :: st) σ τ := rr_aload_n dX10_rowOf_30 rfl
theorem r97_31 (d : Nat) (ls st : List Value) (σ : am_St) (τ : Int64) (k : Nat) : am_run d 97 31 ls (.ref k :: st) σ τ = am_gf k 10 17 σ τ (fun v => am_run d 97 34 ls (v :: st) σ τ) := rr_getf dX10_rowOf_31 (by decide +kernel)
theorem r97_34 (d : Nat) (st : List Value) (σ : am_St) (τ : Int64) (x : Int32) (v0 v1 v2 v3 : Value) : am_run d 97 34 [v0, v1, v2, v3, .int x] st σ τ = am_run d 97 36 [v0, v1, v2, v3, .int x] (.int x :: st) σ τ := rr_iload dX10_rowOf_34 rfl
theorem r97_36 (d : Nat) (ls st : List Value) (σ : am_St) (τ : Int64) (i : Int32) (k : Nat) : am_run d 97 36 ls (.int i :: .ref k :: st) σ τ = am_ai false k i (fun j => am_run d 97 37 ls (.int (σ k j) :: st) σ τ) := rr_iald dX10_rowOf_36
theorem r97_37 (d : Nat) (st : List Value) (σ : am_St) (τ : Int64) (x : Int32) (v0 v1 v2 v3 v4 : Value) : am_run d 97 37 [v0, v1, v2, v3, v4] (.int x :: st) σ τ = am_run d 97 39 [v0, v1, v2, am_nl v3, .int x] st σ τ := rr_istore _ dX10_rowOf_37 (by decide) (by first | rfl | (by_cases h : v3.category = 2 <;> simp [am_set1, am_nl, h]))
theorem r97_39 (d : Nat) (ls st : List Value) (σ : am_St) (τ : Int64) : am_run d 97 39 ls st σ τ = am_run d 97 10 ls st σ τ := rr_goto 10 dX10_rowOf_39 (by decide)
theorem r97_42 (d : Nat) (st : List Value) (σ : am_St) (τ : Int64) (x : Int32) (v0 v1 v2 v4 : Value) : am_run d 97 42 [v0, v1, v2, .int x, v4] st σ τ = am_run d 97 43 [v0, v1, v2, .int x, v4] (.int x :: st) σ τ := rr_iload_n dX10_rowOf_42 rfl
theorem r97_43 (d : Nat) (ls : List Value) (σ : am_St) (τ : Int64) (x : Int32) : am_run d 97 43 ls [.int x] σ τ = some (some (.int x), σ, τ) := rr_iret dX10_rowOf_43 rfl
theorem dX10_nameOf_0 : decode (am_code 98) 0 = .ok (.aload_n 0, 1) := by decide +kernel
theorem dX10_nameOf_1 : decode (am_code 98) 1 = .ok (.getfield 19, 3) := by decide +kernel
theorem dX10_nameOf_4 : decode (am_code 98) 4 = .ok (.iload_n 1, 1) := by decide +kernel
theorem dX10_nameOf_5 : decode (am_code 98) 5 = .ok (.iaload, 1) := by decide +kernel
theorem dX10_nameOf_6 : decode (am_code 98) 6 = .ok (.invokestatic 132, 3) := by decide +kernel
theorem dX10_nameOf_9 : decode (am_code 98) 9 = .ok (.ifCond .eq 10, 3) := by decide +kernel
theorem dX10_nameOf_12 : decode (am_code 98) 12 = .ok (.aload_n 0, 1) := by decide +kernel
theorem dX10_nameOf_13 : decode (am_code 98) 13 = .ok (.getfield 49, 3) := by decide +kernel
theorem dX10_nameOf_16 : decode (am_code 98) 16 = .ok (.iload_n 1, 1) := by decide +kernel
theorem dX10_nameOf_17 : decode (am_code 98) 17 = .ok (.iaload, 1) := by decide +kernel
theorem dX10_nameOf_18 : decode (am_code 98) 18 = .ok (.ireturn, 1) := by decide +kernel
theorem dX10_nameOf_19 : decode (am_code 98) 19 = .ok (.aload_n 0, 1) := by decide +kernel
theorem dX10_nameOf_20 : decode (am_code 98) 20 = .ok (.getfield 19, 3) := by decide +kernel
theorem dX10_nameOf_23 : decode (am_code 98) 23 = .ok (.iload_n 1, 1) := by decide +kernel
theorem dX10_nameOf_24 : decode (am_code 98) 24 = .ok (.iaload, 1) := by decide +kernel
theorem dX10_nameOf_25 : decode (am_code 98) 25 = .ok (.ifCond .ne 55, 3) := by decide +kernel
theorem dX10_nameOf_28 : decode (am_code 98) 28 = .ok (.aload_n 0, 1) := by decide +kernel
theorem dX10_nameOf_29 : decode (am_code 98) 29 = .ok (.aload_n 0, 1) := by decide +kernel
theorem dX10_nameOf_30 : decode (am_code 98) 30 = .ok (.getfield 52, 3) := by decide +kernel
theorem dX10_nameOf_33 : decode (am_code 98) 33 = .ok (.iconst 0, 1) := by decide +kernel
theorem dX10_nameOf_34 : decode (am_code 98) 34 = .ok (.iaload, 1) := by decide +kernel
theorem dX10_nameOf_35 : decode (am_code 98) 35 = .ok (.iload_n 1, 1) := by decide +kernel
theorem dX10_nameOf_36 : decode (am_code 98) 36 = .ok (.invokevirtual 152, 3) := by decide +kernel
theorem dX10_nameOf_39 : decode (am_code 98) 39 = .ok (.istore_n 2, 1) := by decide +kernel
theorem dX10_nameOf_40 : decode (am_code 98) 40 = .ok (.aload_n 0, 1) := by decide +kernel
theorem dX10_nameOf_41 : decode (am_code 98) 41 = .ok (.getfield 52, 3) := by decide +kernel
theorem dX10_nameOf_44 : decode (am_code 98) 44 = .ok (.iconst 1, 1) := by decide +kernel
theorem dX10_nameOf_45 : decode (am_code 98) 45 = .ok (.iaload, 1) := by decide +kernel
theorem dX10_nameOf_46 : decode (am_code 98) 46 = .ok (.ifCond .le 32, 3) := by decide +kernel
theorem dX10_nameOf_49 : decode (am_code 98) 49 = .ok (.aload_n 0, 1) := by decide +kernel
theorem dX10_nameOf_50 : decode (am_code 98) 50 = .ok (.iload_n 1, 1) := by decide +kernel
theorem dX10_nameOf_51 : decode (am_code 98) 51 = .ok (.iload_n 2, 1) := by decide +kernel
theorem dX10_nameOf_52 : decode (am_code 98) 52 = .ok (.invokevirtual 156, 3) := by decide +kernel
theorem dX10_nameOf_55 : decode (am_code 98) 55 = .ok (.aload_n 0, 1) := by decide +kernel
theorem dX10_nameOf_56 : decode (am_code 98) 56 = .ok (.getfield 52, 3) := by decide +kernel
theorem dX10_nameOf_59 : decode (am_code 98) 59 = .ok (.iconst 1, 1) := by decide +kernel
theorem dX10_nameOf_60 : decode (am_code 98) 60 = .ok (.iaload, 1) := by decide +kernel
theorem dX10_nameOf_61 : decode (am_code 98) 61 = .ok (.if_icmp .lt 17, 3) := by decide +kernel
theorem dX10_nameOf_64 : decode (am_code 98) 64 = .ok (.aload_n 0, 1) := by decide +kernel
theorem dX10_nameOf_65 : decode (am_code 98) 65 = .ok (.aload_n 0, 1) := by decide +kernel
theorem dX10_nameOf_66 : decode (am_code 98) 66 = .ok (.getfield 52, 3) := by decide +kernel
theorem dX10_nameOf_69 : decode (am_code 98) 69 = .ok (.iconst 2, 1) := by decide +kernel
theorem dX10_nameOf_70 : decode (am_code 98) 70 = .ok (.iaload, 1) := by decide +kernel
theorem dX10_nameOf_71 : decode (am_code 98) 71 = .ok (.iload_n 1, 1) := by decide +kernel
theorem dX10_nameOf_72 : decode (am_code 98) 72 = .ok (.invokevirtual 152, 3) := by decide +kernel
theorem dX10_nameOf_75 : decode (am_code 98) 75 = .ok (.goto 4, 3) := by decide +kernel
theorem dX10_nameOf_78 : decode (am_code 98) 78 = .ok (.iload_n 2, 1) := by decide +kernel
theorem dX10_nameOf_79 : decode (am_code 98) 79 = .ok (.ireturn, 1) := by decide +kernel
theorem dX10_nameOf_80 : decode (am_code 98) 80 = .ok (.aload_n 0, 1) := by decide +kernel
theorem dX10_nameOf_81 : decode (am_code 98) 81 = .ok (.getfield 19, 3) := by decide +kernel
theorem dX10_nameOf_84 : decode (am_code 98) 84 = .ok (.iload_n 1, 1) := by decide +kernel
theorem dX10_nameOf_85 : decode (am_code 98) 85 = .ok (.iaload, 1) := by decide +kernel
theorem dX10_nameOf_86 : decode (am_code 98) 86 = .ok (.iconst 4, 1) := by decide +kernel
theorem dX10_nameOf_87 : decode (am_code 98) 87 = .ok (.if_icmp .ne 7, 3) := by decide +kernel
theorem dX10_nameOf_90 : decode (am_code 98) 90 = .ok (.iconst 1, 1) := by decide +kernel
theorem dX10_nameOf_91 : decode (am_code 98) 91 = .ok (.goto 4, 3) := by decide +kernel
theorem dX10_nameOf_94 : decode (am_code 98) 94 = .ok (.iconst 0, 1) := by decide +kernel
theorem dX10_nameOf_95 : decode (am_code 98) 95 = .ok (.istore_n 2, 1) := by decide +kernel
theorem dX10_nameOf_96 : decode (am_code 98) 96 = .ok (.iconst 0, 1) := by decide +kernel
theorem dX10_nameOf_97 : decode (am_code 98) 97 = .ok (.istore_n 3, 1) := by decide +kernel
theorem dX10_nameOf_98 : decode (am_code 98) 98 = .ok (.iload_n 3, 1) := by decide +kernel
theorem dX10_nameOf_99 : decode (am_code 98) 99 = .ok (.iload_n 1, 1) := by decide +kernel
theorem dX10_nameOf_100 : decode (am_code 98) 100 = .ok (.if_icmp .ge 54, 3) := by decide +kernel
theorem dX10_nameOf_103 : decode (am_code 98) 103 = .ok (.iload_n 2, 1) := by decide +kernel
theorem dX10_nameOf_104 : decode (am_code 98) 104 = .ok (.ifCond .eq 42, 3) := by decide +kernel
theorem dX10_nameOf_107 : decode (am_code 98) 107 = .ok (.aload_n 0, 1) := by decide +kernel
theorem dX10_nameOf_108 : decode (am_code 98) 108 = .ok (.getfield 46, 3) := by decide +kernel
theorem dX10_nameOf_111 : decode (am_code 98) 111 = .ok (.iload_n 3, 1) := by decide +kernel
theorem dX10_nameOf_112 : decode (am_code 98) 112 = .ok (.iaload, 1) := by decide +kernel
theorem dX10_nameOf_113 : decode (am_code 98) 113 = .ok (.aload_n 0, 1) := by decide +kernel
theorem dX10_nameOf_114 : decode (am_code 98) 114 = .ok (.getfield 46, 3) := by decide +kernel
theorem dX10_nameOf_117 : decode (am_code 98) 117 = .ok (.iload_n 1, 1) := by decide +kernel
theorem dX10_nameOf_118 : decode (am_code 98) 118 = .ok (.iaload, 1) := by decide +kernel
theorem dX10_nameOf_119 : decode (am_code 98) 119 = .ok (.if_icmp .ne 23, 3) := by decide +kernel
theorem dX10_nameOf_122 : decode (am_code 98) 122 = .ok (.aload_n 0, 1) := by decide +kernel
theorem dX10_nameOf_123 : decode (am_code 98) 123 = .ok (.getfield 43, 3) := by decide +kernel
theorem dX10_nameOf_126 : decode (am_code 98) 126 = .ok (.iload_n 3, 1) := by decide +kernel
theorem dX10_nameOf_127 : decode (am_code 98) 127 = .ok (.iaload, 1) := by decide +kernel
theorem dX10_nameOf_128 : decode (am_code 98) 128 = .ok (.aload_n 0, 1) := by decide +kernel
theorem dX10_nameOf_129 : decode (am_code 98) 129 = .ok (.getfield 43, 3) := by decide +kernel
theorem dX10_nameOf_132 : decode (am_code 98) 132 = .ok (.aload_n 0, 1) := by decide +kernel
theorem dX10_nameOf_133 : decode (am_code 98) 133 = .ok (.getfield 46, 3) := by decide +kernel
theorem dX10_nameOf_136 : decode (am_code 98) 136 = .ok (.iload_n 1, 1) := by decide +kernel
theorem dX10_nameOf_137 : decode (am_code 98) 137 = .ok (.iaload, 1) := by decide +kernel
theorem dX10_nameOf_138 : decode (am_code 98) 138 = .ok (.iaload, 1) := by decide +kernel
theorem dX10_nameOf_139 : decode (am_code 98) 139 = .ok (.if_icmp .eq 7, 3) := by decide +kernel
theorem dX10_nameOf_142 : decode (am_code 98) 142 = .ok (.iconst 1, 1) := by decide +kernel
theorem dX10_nameOf_143 : decode (am_code 98) 143 = .ok (.goto 4, 3) := by decide +kernel
theorem dX10_nameOf_146 : decode (am_code 98) 146 = .ok (.iconst 0, 1) := by decide +kernel
theorem dX10_nameOf_147 : decode (am_code 98) 147 = .ok (.istore_n 2, 1) := by decide +kernel
theorem dX10_nameOf_148 : decode (am_code 98) 148 = .ok (.iinc 3 1, 3) := by decide +kernel
theorem dX10_nameOf_151 : decode (am_code 98) 151 = .ok (.goto (-53), 3) := by decide +kernel
theorem dX10_nameOf_154 : decode (am_code 98) 154 = .ok (.iload_n 2, 1) := by decide +kernel
theorem dX10_nameOf_155 : decode (am_code 98) 155 = .ok (.ifCond .eq 17, 3) := by decide +kernel
theorem dX10_nameOf_158 : decode (am_code 98) 158 = .ok (.aload_n 0, 1) := by decide +kernel
theorem dX10_nameOf_159 : decode (am_code 98) 159 = .ok (.getfield 43, 3) := by decide +kernel
theorem dX10_nameOf_162 : decode (am_code 98) 162 = .ok (.aload_n 0, 1) := by decide +kernel
theorem dX10_nameOf_163 : decode (am_code 98) 163 = .ok (.getfield 46, 3) := by decide +kernel
theorem dX10_nameOf_166 : decode (am_code 98) 166 = .ok (.iload_n 1, 1) := by decide +kernel
theorem dX10_nameOf_167 : decode (am_code 98) 167 = .ok (.iaload, 1) := by decide +kernel
theorem dX10_nameOf_168 : decode (am_code 98) 168 = .ok (.iaload, 1) := by decide +kernel
theorem dX10_nameOf_169 : decode (am_code 98) 169 = .ok (.goto 14, 3) := by decide +kernel
theorem dX10_nameOf_172 : decode (am_code 98) 172 = .ok (.aload_n 0, 1) := by decide +kernel
theorem dX10_nameOf_173 : decode (am_code 98) 173 = .ok (.aload_n 0, 1) := by decide +kernel
theorem dX10_nameOf_174 : decode (am_code 98) 174 = .ok (.getfield 52, 3) := by decide +kernel
theorem dX10_nameOf_177 : decode (am_code 98) 177 = .ok (.iconst 3, 1) := by decide +kernel
theorem dX10_nameOf_178 : decode (am_code 98) 178 = .ok (.iaload, 1) := by decide +kernel
theorem dX10_nameOf_179 : decode (am_code 98) 179 = .ok (.iload_n 1, 1) := by decide +kernel
theorem dX10_nameOf_180 : decode (am_code 98) 180 = .ok (.invokevirtual 152, 3) := by decide +kernel
theorem dX10_nameOf_183 : decode (am_code 98) 183 = .ok (.ireturn, 1) := by decide +kernel
theorem r98_0 (d : Nat) (st : List Value) (σ : am_St) (τ : Int64) (x : Nat) (v1 v2 v3 : Value) : am_run d 98 0 [.ref x, v1, v2, v3] st σ τ = am_run d 98 1 [.ref x, v1, v2, v3] (.ref x :: st) σ τ := rr_aload_n dX10_nameOf_0 rfl
theorem r98_1 (d : Nat) (ls st : List Value) (σ : am_St) (τ : Int64) (k : Nat) : am_run d 98 1 ls (.ref k :: st) σ τ = am_gf k 10 8 σ τ (fun v => am_run d 98 4 ls (v :: st) σ τ) := rr_getf dX10_nameOf_1 (by decide +kernel)
theorem r98_4 (d : Nat) (st : List Value) (σ : am_St) (τ : Int64) (x : Int32) (v0 v2 v3 : Value) : am_run d 98 4 [v0, .int x, v2, v3] st σ τ = am_run d 98 5 [v0, .int x, v2, v3] (.int x :: st) σ τ := rr_iload_n dX10_nameOf_4 rfl
theorem r98_5 (d : Nat) (ls st : List Value) (σ : am_St) (τ : Int64) (i : Int32) (k : Nat) : am_run d 98 5 ls (.int i :: .ref k :: st) σ τ = am_ai false k i (fun j => am_run d 98 6 ls (.int (σ k j) :: st) σ τ) := rr_iald dX10_nameOf_5
theorem r98_6 (d : Nat) (ls st : List Value) (σ : am_St) (τ : Int64) (a0 : Int32) (hc : am_cats st ≤ 8) : am_run (d + 1) 98 6 ls (.int a0 :: st) σ τ = (am_call d 92 [.int a0] σ τ).bind (fun r => am_run (d + 1) 98 9 ls (r.1.toList ++ st) r.2.1 r.2.2) := rr_invs [.int a0] dX10_nameOf_6 (by decide +kernel) (by decide +kernel) (by decide) rfl (Nat.le_of_ble_eq_true rfl) hc
theorem r98_9 (d : Nat) (ls st : List Value) (σ : am_St) (τ : Int64) (x : Int32) : am_run d 98 9 ls (.int x :: st) σ τ = if x = 0 then am_run d 98 19 ls st σ τ else am_run d 98 12 ls st σ τ := (rr_if 19 dX10_nameOf_9 (by decide)).trans am_sel
theorem r98_12 (d : Nat) (st : List Value) (σ : am_St) (τ : Int64) (x : Nat) (v1 v2 v3 : Value) : am_run d 98 12 [.ref x, v1, v2, v3] st σ τ = am_run d 98 13 [.ref x, v1, v2, v3] (.ref x :: st) σ τ := rr_aload_n dX10_nameOf_12 rfl
theorem r98_13 (d : Nat) (ls st : List Value) (σ : am_St) (τ : Int64) (k : Nat) : am_run d 98 13 ls (.ref k :: st) σ τ = am_gf k 10 18 σ τ (fun v => am_run d 98 16 ls (v :: st) σ τ) := rr_getf dX10_nameOf_13 (by decide +kernel)
theorem r98_16 (d : Nat) (st : List Value) (σ : am_St) (τ : Int64) (x : Int32) (v0 v2 v3 : Value) : am_run d 98 16 [v0, .int x, v2, v3] st σ τ = am_run d 98 17 [v0, .int x, v2, v3] (.int x :: st) σ τ := rr_iload_n dX10_nameOf_16 rfl
theorem r98_17 (d : Nat) (ls st : List Value) (σ : am_St) (τ : Int64) (i : Int32) (k : Nat) : am_run d 98 17 ls (.int i :: .ref k :: st) σ τ = am_ai false k i (fun j => am_run d 98 18 ls (.int (σ k j) :: st) σ τ) := rr_iald dX10_nameOf_17
theorem r98_18 (d : Nat) (ls : List Value) (σ : am_St) (τ : Int64) (x : Int32) : am_run d 98 18 ls [.int x] σ τ = some (some (.int x), σ, τ) := rr_iret dX10_nameOf_18 rfl
theorem r98_19 (d : Nat) (st : List Value) (σ : am_St) (τ : Int64) (x : Nat) (v1 v2 v3 : Value) : am_run d 98 19 [.ref x, v1, v2, v3] st σ τ = am_run d 98 20 [.ref x, v1, v2, v3] (.ref x :: st) σ τ := rr_aload_n dX10_nameOf_19 rfl
theorem r98_20 (d : Nat) (ls st : List Value) (σ : am_St) (τ : Int64) (k : Nat) : am_run d 98 20 ls (.ref k :: st) σ τ = am_gf k 10 8 σ τ (fun v => am_run d 98 23 ls (v :: st) σ τ) := rr_getf dX10_nameOf_20 (by decide +kernel)
theorem r98_23 (d : Nat) (st : List Value) (σ : am_St) (τ : Int64) (x : Int32) (v0 v2 v3 : Value) : am_run d 98 23 [v0, .int x, v2, v3] st σ τ = am_run d 98 24 [v0, .int x, v2, v3] (.int x :: st) σ τ := rr_iload_n dX10_nameOf_23 rfl
theorem r98_24 (d : Nat) (ls st : List Value) (σ : am_St) (τ : Int64) (i : Int32) (k : Nat) : am_run d 98 24 ls (.int i :: .ref k :: st) σ τ = am_ai false k i (fun j => am_run d 98 25 ls (.int (σ k j) :: st) σ τ) := rr_iald dX10_nameOf_24
theorem r98_25 (d : Nat) (ls st : List Value) (σ : am_St) (τ : Int64) (x : Int32) : am_run d 98 25 ls (.int x :: st) σ τ = if x = 0 then am_run d 98 28 ls st σ τ else am_run d 98 80 ls st σ τ := (rr_if 80 dX10_nameOf_25 (by decide)).trans am_seln
theorem r98_28 (d : Nat) (st : List Value) (σ : am_St) (τ : Int64) (x : Nat) (v1 v2 v3 : Value) : am_run d 98 28 [.ref x, v1, v2, v3] st σ τ = am_run d 98 29 [.ref x, v1, v2, v3] (.ref x :: st) σ τ := rr_aload_n dX10_nameOf_28 rfl
theorem r98_29 (d : Nat) (st : List Value) (σ : am_St) (τ : Int64) (x : Nat) (v1 v2 v3 : Value) : am_run d 98 29 [.ref x, v1, v2, v3] st σ τ = am_run d 98 30 [.ref x, v1, v2, v3] (.ref x :: st) σ τ := rr_aload_n dX10_nameOf_29 rfl
theorem r98_30 (d : Nat) (ls st : List Value) (σ : am_St) (τ : Int64) (k : Nat) : am_run d 98 30 ls (.ref k :: st) σ τ = am_gf k 10 19 σ τ (fun v => am_run d 98 33 ls (v :: st) σ τ) := rr_getf dX10_nameOf_30 (by decide +kernel)
theorem r98_33 (d : Nat) (ls st : List Value) (σ : am_St) (τ : Int64) : am_run d 98 33 ls st σ τ = am_run d 98 34 ls (.int 0 :: st) σ τ := rr_iconst 0 dX10_nameOf_33 (by decide)
theorem r98_34 (d : Nat) (ls st : List Value) (σ : am_St) (τ : Int64) (i : Int32) (k : Nat) : am_run d 98 34 ls (.int i :: .ref k :: st) σ τ = am_ai false k i (fun j => am_run d 98 35 ls (.int (σ k j) :: st) σ τ) := rr_iald dX10_nameOf_34
theorem r98_35 (d : Nat) (st : List Value) (σ : am_St) (τ : Int64) (x : Int32) (v0 v2 v3 : Value) : am_run d 98 35 [v0, .int x, v2, v3] st σ τ = am_run d 98 36 [v0, .int x, v2, v3] (.int x :: st) σ τ := rr_iload_n dX10_nameOf_35 rfl
theorem r98_36 (d : Nat) (ls st : List Value) (σ : am_St) (τ : Int64) (k : Nat) (a0 : Int32) (a1 : Int32) (hk : am_kc k = 10) (hc : am_cats st ≤ 8) : am_run (d + 1) 98 36 ls (.int a1 :: .int a0 :: .ref k :: st) σ τ = (am_call d 96 [.ref k, .int a0, .int a1] σ τ).bind (fun r => am_run (d + 1) 98 39 ls (r.1.toList ++ st) r.2.1 r.2.2) := rr_invv [.int a0, .int a1] dX10_nameOf_36 (by decide +kernel) (by decide) rfl (Nat.le_of_ble_eq_true rfl) hk hc
theorem r98_39 (d : Nat) (st : List Value) (σ : am_St) (τ : Int64) (x : Int32) (v0 v1 v2 v3 : Value) : am_run d 98 39 [v0, v1, v2, v3] (.int x :: st) σ τ = am_run d 98 40 [v0, am_nl v1, .int x, v3] st σ τ := rr_istore_n _ dX10_nameOf_39 (by decide) (by first | rfl | (by_cases h : v1.category = 2 <;> simp [am_set1, am_nl, h]))
theorem r98_40 (d : Nat) (st : List Value) (σ : am_St) (τ : Int64) (x : Nat) (v1 v2 v3 : Value) : am_run d 98 40 [.ref x, v1, v2, v3] st σ τ = am_run d 98 41 [.ref x, v1, v2, v3] (.ref x :: st) σ τ := rr_aload_n dX10_nameOf_40 rfl
theorem r98_41 (d : Nat) (ls st : List Value) (σ : am_St) (τ : Int64) (k : Nat) : am_run d 98 41 ls (.ref k :: st) σ τ = am_gf k 10 19 σ τ (fun v => am_run d 98 44 ls (v :: st) σ τ) := rr_getf dX10_nameOf_41 (by decide +kernel)
theorem r98_44 (d : Nat) (ls st : List Value) (σ : am_St) (τ : Int64) : am_run d 98 44 ls st σ τ = am_run d 98 45 ls (.int 1 :: st) σ τ := rr_iconst 1 dX10_nameOf_44 (by decide)
theorem r98_45 (d : Nat) (ls st : List Value) (σ : am_St) (τ : Int64) (i : Int32) (k : Nat) : am_run d 98 45 ls (.int i :: .ref k :: st) σ τ = am_ai false k i (fun j => am_run d 98 46 ls (.int (σ k j) :: st) σ τ) := rr_iald dX10_nameOf_45
theorem r98_46 (d : Nat) (ls st : List Value) (σ : am_St) (τ : Int64) (x : Int32) : am_run d 98 46 ls (.int x :: st) σ τ = if x ≤ 0 then am_run d 98 78 ls st σ τ else am_run d 98 49 ls st σ τ := (rr_if 78 dX10_nameOf_46 (by decide)).trans am_sel
theorem r98_49 (d : Nat) (st : List Value) (σ : am_St) (τ : Int64) (x : Nat) (v1 v2 v3 : Value) : am_run d 98 49 [.ref x, v1, v2, v3] st σ τ = am_run d 98 50 [.ref x, v1, v2, v3] (.ref x :: st) σ τ := rr_aload_n dX10_nameOf_49 rfl
theorem r98_50 (d : Nat) (st : List Value) (σ : am_St) (τ : Int64) (x : Int32) (v0 v2 v3 : Value) : am_run d 98 50 [v0, .int x, v2, v3] st σ τ = am_run d 98 51 [v0, .int x, v2, v3] (.int x :: st) σ τ := rr_iload_n dX10_nameOf_50 rfl
theorem r98_51 (d : Nat) (st : List Value) (σ : am_St) (τ : Int64) (x : Int32) (v0 v1 v3 : Value) : am_run d 98 51 [v0, v1, .int x, v3] st σ τ = am_run d 98 52 [v0, v1, .int x, v3] (.int x :: st) σ τ := rr_iload_n dX10_nameOf_51 rfl
theorem r98_52 (d : Nat) (ls st : List Value) (σ : am_St) (τ : Int64) (k : Nat) (a0 : Int32) (a1 : Int32) (hk : am_kc k = 10) (hc : am_cats st ≤ 8) : am_run (d + 1) 98 52 ls (.int a1 :: .int a0 :: .ref k :: st) σ τ = (am_call d 97 [.ref k, .int a0, .int a1] σ τ).bind (fun r => am_run (d + 1) 98 55 ls (r.1.toList ++ st) r.2.1 r.2.2) := rr_invv [.int a0, .int a1] dX10_nameOf_52 (by decide +kernel) (by decide) rfl (Nat.le_of_ble_eq_true rfl) hk hc
theorem r98_55 (d : Nat) (st : List Value) (σ : am_St) (τ : Int64) (x : Nat) (v1 v2 v3 : Value) : am_run d 98 55 [.ref x, v1, v2, v3] st σ τ = am_run d 98 56 [.ref x, v1, v2, v3] (.ref x :: st) σ τ := rr_aload_n dX10_nameOf_55 rfl
theorem r98_56 (d : Nat) (ls st : List Value) (σ : am_St) (τ : Int64) (k : Nat) : am_run d 98 56 ls (.ref k :: st) σ τ = am_gf k 10 19 σ τ (fun v => am_run d 98 59 ls (v :: st) σ τ) := rr_getf dX10_nameOf_56 (by decide +kernel)
theorem r98_59 (d : Nat) (ls st : List Value) (σ : am_St) (τ : Int64) : am_run d 98 59 ls st σ τ = am_run d 98 60 ls (.int 1 :: st) σ τ := rr_iconst 1 dX10_nameOf_59 (by decide)
theorem r98_60 (d : Nat) (ls st : List Value) (σ : am_St) (τ : Int64) (i : Int32) (k : Nat) : am_run d 98 60 ls (.int i :: .ref k :: st) σ τ = am_ai false k i (fun j => am_run d 98 61 ls (.int (σ k j) :: st) σ τ) := rr_iald dX10_nameOf_60
theorem r98_61 (d : Nat) (ls st : List Value) (σ : am_St) (τ : Int64) (x y : Int32) : am_run d 98 61 ls (.int y :: .int x :: st) σ τ = if x < y then am_run d 98 78 ls st σ τ else am_run d 98 64 ls st σ τ := (rr_icmp 78 dX10_nameOf_61 (by decide)).trans am_sel
theorem r98_64 (d : Nat) (st : List Value) (σ : am_St) (τ : Int64) (x : Nat) (v1 v2 v3 : Value) : am_run d 98 64 [.ref x, v1, v2, v3] st σ τ = am_run d 98 65 [.ref x, v1, v2, v3] (.ref x :: st) σ τ := rr_aload_n dX10_nameOf_64 rfl
theorem r98_65 (d : Nat) (st : List Value) (σ : am_St) (τ : Int64) (x : Nat) (v1 v2 v3 : Value) : am_run d 98 65 [.ref x, v1, v2, v3] st σ τ = am_run d 98 66 [.ref x, v1, v2, v3] (.ref x :: st) σ τ := rr_aload_n dX10_nameOf_65 rfl
theorem r98_66 (d : Nat) (ls st : List Value) (σ : am_St) (τ : Int64) (k : Nat) : am_run d 98 66 ls (.ref k :: st) σ τ = am_gf k 10 19 σ τ (fun v => am_run d 98 69 ls (v :: st) σ τ) := rr_getf dX10_nameOf_66 (by decide +kernel)
theorem r98_69 (d : Nat) (ls st : List Value) (σ : am_St) (τ : Int64) : am_run d 98 69 ls st σ τ = am_run d 98 70 ls (.int 2 :: st) σ τ := rr_iconst 2 dX10_nameOf_69 (by decide)
theorem r98_70 (d : Nat) (ls st : List Value) (σ : am_St) (τ : Int64) (i : Int32) (k : Nat) : am_run d 98 70 ls (.int i :: .ref k :: st) σ τ = am_ai false k i (fun j => am_run d 98 71 ls (.int (σ k j) :: st) σ τ) := rr_iald dX10_nameOf_70
theorem r98_71 (d : Nat) (st : List Value) (σ : am_St) (τ : Int64) (x : Int32) (v0 v2 v3 : Value) : am_run d 98 71 [v0, .int x, v2, v3] st σ τ = am_run d 98 72 [v0, .int x, v2, v3] (.int x :: st) σ τ := rr_iload_n dX10_nameOf_71 rfl
theorem r98_72 (d : Nat) (ls st : List Value) (σ : am_St) (τ : Int64) (k : Nat) (a0 : Int32) (a1 : Int32) (hk : am_kc k = 10) (hc : am_cats st ≤ 8) : am_run (d + 1) 98 72 ls (.int a1 :: .int a0 :: .ref k :: st) σ τ = (am_call d 96 [.ref k, .int a0, .int a1] σ τ).bind (fun r => am_run (d + 1) 98 75 ls (r.1.toList ++ st) r.2.1 r.2.2) := rr_invv [.int a0, .int a1] dX10_nameOf_72 (by decide +kernel) (by decide) rfl (Nat.le_of_ble_eq_true rfl) hk hc
theorem r98_75 (d : Nat) (ls st : List Value) (σ : am_St) (τ : Int64) : am_run d 98 75 ls st σ τ = am_run d 98 79 ls st σ τ := rr_goto 79 dX10_nameOf_75 (by decide)
theorem r98_78 (d : Nat) (st : List Value) (σ : am_St) (τ : Int64) (x : Int32) (v0 v1 v3 : Value) : am_run d 98 78 [v0, v1, .int x, v3] st σ τ = am_run d 98 79 [v0, v1, .int x, v3] (.int x :: st) σ τ := rr_iload_n dX10_nameOf_78 rfl
theorem r98_79 (d : Nat) (ls : List Value) (σ : am_St) (τ : Int64) (x : Int32) : am_run d 98 79 ls [.int x] σ τ = some (some (.int x), σ, τ) := rr_iret dX10_nameOf_79 rfl
theorem r98_80 (d : Nat) (st : List Value) (σ : am_St) (τ : Int64) (x : Nat) (v1 v2 v3 : Value) : am_run d 98 80 [.ref x, v1, v2, v3] st σ τ = am_run d 98 81 [.ref x, v1, v2, v3] (.ref x :: st) σ τ := rr_aload_n dX10_nameOf_80 rfl
theorem r98_81 (d : Nat) (ls st : List Value) (σ : am_St) (τ : Int64) (k : Nat) : am_run d 98 81 ls (.ref k :: st) σ τ = am_gf k 10 8 σ τ (fun v => am_run d 98 84 ls (v :: st) σ τ) := rr_getf dX10_nameOf_81 (by decide +kernel)
theorem r98_84 (d : Nat) (st : List Value) (σ : am_St) (τ : Int64) (x : Int32) (v0 v2 v3 : Value) : am_run d 98 84 [v0, .int x, v2, v3] st σ τ = am_run d 98 85 [v0, .int x, v2, v3] (.int x :: st) σ τ := rr_iload_n dX10_nameOf_84 rfl
theorem r98_85 (d : Nat) (ls st : List Value) (σ : am_St) (τ : Int64) (i : Int32) (k : Nat) : am_run d 98 85 ls (.int i :: .ref k :: st) σ τ = am_ai false k i (fun j => am_run d 98 86 ls (.int (σ k j) :: st) σ τ) := rr_iald dX10_nameOf_85
theorem r98_86 (d : Nat) (ls st : List Value) (σ : am_St) (τ : Int64) : am_run d 98 86 ls st σ τ = am_run d 98 87 ls (.int 4 :: st) σ τ := rr_iconst 4 dX10_nameOf_86 (by decide)
theorem r98_87 (d : Nat) (ls st : List Value) (σ : am_St) (τ : Int64) (x y : Int32) : am_run d 98 87 ls (.int y :: .int x :: st) σ τ = if x = y then am_run d 98 90 ls st σ τ else am_run d 98 94 ls st σ τ := (rr_icmp 94 dX10_nameOf_87 (by decide)).trans am_seln
theorem r98_90 (d : Nat) (ls st : List Value) (σ : am_St) (τ : Int64) : am_run d 98 90 ls st σ τ = am_run d 98 91 ls (.int 1 :: st) σ τ := rr_iconst 1 dX10_nameOf_90 (by decide)
theorem r98_91 (d : Nat) (ls st : List Value) (σ : am_St) (τ : Int64) : am_run d 98 91 ls st σ τ = am_run d 98 95 ls st σ τ := rr_goto 95 dX10_nameOf_91 (by decide)
theorem r98_94 (d : Nat) (ls st : List Value) (σ : am_St) (τ : Int64) : am_run d 98 94 ls st σ τ = am_run d 98 95 ls (.int 0 :: st) σ τ := rr_iconst 0 dX10_nameOf_94 (by decide)
theorem r98_95 (d : Nat) (st : List Value) (σ : am_St) (τ : Int64) (x : Int32) (v0 v1 v2 v3 : Value) : am_run d 98 95 [v0, v1, v2, v3] (.int x :: st) σ τ = am_run d 98 96 [v0, am_nl v1, .int x, v3] st σ τ := rr_istore_n _ dX10_nameOf_95 (by decide) (by first | rfl | (by_cases h : v1.category = 2 <;> simp [am_set1, am_nl, h]))
theorem r98_96 (d : Nat) (ls st : List Value) (σ : am_St) (τ : Int64) : am_run d 98 96 ls st σ τ = am_run d 98 97 ls (.int 0 :: st) σ τ := rr_iconst 0 dX10_nameOf_96 (by decide)
theorem r98_97 (d : Nat) (st : List Value) (σ : am_St) (τ : Int64) (x : Int32) (v0 v1 v2 v3 : Value) : am_run d 98 97 [v0, v1, v2, v3] (.int x :: st) σ τ = am_run d 98 98 [v0, v1, am_nl v2, .int x] st σ τ := rr_istore_n _ dX10_nameOf_97 (by decide) (by first | rfl | (by_cases h : v2.category = 2 <;> simp [am_set1, am_nl, h]))
theorem r98_98 (d : Nat) (st : List Value) (σ : am_St) (τ : Int64) (x : Int32) (v0 v1 v2 : Value) : am_run d 98 98 [v0, v1, v2, .int x] st σ τ = am_run d 98 99 [v0, v1, v2, .int x] (.int x :: st) σ τ := rr_iload_n dX10_nameOf_98 rfl
theorem r98_99 (d : Nat) (st : List Value) (σ : am_St) (τ : Int64) (x : Int32) (v0 v2 v3 : Value) : am_run d 98 99 [v0, .int x, v2, v3] st σ τ = am_run d 98 100 [v0, .int x, v2, v3] (.int x :: st) σ τ := rr_iload_n dX10_nameOf_99 rfl
theorem r98_100 (d : Nat) (ls st : List Value) (σ : am_St) (τ : Int64) (x y : Int32) : am_run d 98 100 ls (.int y :: .int x :: st) σ τ = if y ≤ x then am_run d 98 154 ls st σ τ else am_run d 98 103 ls st σ τ := (rr_icmp 154 dX10_nameOf_100 (by decide)).trans am_sel
theorem r98_103 (d : Nat) (st : List Value) (σ : am_St) (τ : Int64) (x : Int32) (v0 v1 v3 : Value) : am_run d 98 103 [v0, v1, .int x, v3] st σ τ = am_run d 98 104 [v0, v1, .int x, v3] (.int x :: st) σ τ := rr_iload_n dX10_nameOf_103 rfl
theorem r98_104 (d : Nat) (ls st : List Value) (σ : am_St) (τ : Int64) (x : Int32) : am_run d 98 104 ls (.int x :: st) σ τ = if x = 0 then am_run d 98 146 ls st σ τ else am_run d 98 107 ls st σ τ := (rr_if 146 dX10_nameOf_104 (by decide)).trans am_sel
theorem r98_107 (d : Nat) (st : List Value) (σ : am_St) (τ : Int64) (x : Nat) (v1 v2 v3 : Value) : am_run d 98 107 [.ref x, v1, v2, v3] st σ τ = am_run d 98 108 [.ref x, v1, v2, v3] (.ref x :: st) σ τ := rr_aload_n dX10_nameOf_107 rfl
theorem r98_108 (d : Nat) (ls st : List Value) (σ : am_St) (τ : Int64) (k : Nat) : am_run d 98 108 ls (.ref k :: st) σ τ = am_gf k 10 17 σ τ (fun v => am_run d 98 111 ls (v :: st) σ τ) := rr_getf dX10_nameOf_108 (by decide +kernel)
theorem r98_111 (d : Nat) (st : List Value) (σ : am_St) (τ : Int64) (x : Int32) (v0 v1 v2 : Value) : am_run d 98 111 [v0, v1, v2, .int x] st σ τ = am_run d 98 112 [v0, v1, v2, .int x] (.int x :: st) σ τ := rr_iload_n dX10_nameOf_111 rfl
theorem r98_112 (d : Nat) (ls st : List Value) (σ : am_St) (τ : Int64) (i : Int32) (k : Nat) : am_run d 98 112 ls (.int i :: .ref k :: st) σ τ = am_ai false k i (fun j => am_run d 98 113 ls (.int (σ k j) :: st) σ τ) := rr_iald dX10_nameOf_112
theorem r98_113 (d : Nat) (st : List Value) (σ : am_St) (τ : Int64) (x : Nat) (v1 v2 v3 : Value) : am_run d 98 113 [.ref x, v1, v2, v3] st σ τ = am_run d 98 114 [.ref x, v1, v2, v3] (.ref x :: st) σ τ := rr_aload_n dX10_nameOf_113 rfl
theorem r98_114 (d : Nat) (ls st : List Value) (σ : am_St) (τ : Int64) (k : Nat) : am_run d 98 114 ls (.ref k :: st) σ τ = am_gf k 10 17 σ τ (fun v => am_run d 98 117 ls (v :: st) σ τ) := rr_getf dX10_nameOf_114 (by decide +kernel)
theorem r98_117 (d : Nat) (st : List Value) (σ : am_St) (τ : Int64) (x : Int32) (v0 v2 v3 : Value) : am_run d 98 117 [v0, .int x, v2, v3] st σ τ = am_run d 98 118 [v0, .int x, v2, v3] (.int x :: st) σ τ := rr_iload_n dX10_nameOf_117 rfl
theorem r98_118 (d : Nat) (ls st : List Value) (σ : am_St) (τ : Int64) (i : Int32) (k : Nat) : am_run d 98 118 ls (.int i :: .ref k :: st) σ τ = am_ai false k i (fun j => am_run d 98 119 ls (.int (σ k j) :: st) σ τ) := rr_iald dX10_nameOf_118
theorem r98_119 (d : Nat) (ls st : List Value) (σ : am_St) (τ : Int64) (x y : Int32) : am_run d 98 119 ls (.int y :: .int x :: st) σ τ = if x = y then am_run d 98 122 ls st σ τ else am_run d 98 142 ls st σ τ := (rr_icmp 142 dX10_nameOf_119 (by decide)).trans am_seln
theorem r98_122 (d : Nat) (st : List Value) (σ : am_St) (τ : Int64) (x : Nat) (v1 v2 v3 : Value) : am_run d 98 122 [.ref x, v1, v2, v3] st σ τ = am_run d 98 123 [.ref x, v1, v2, v3] (.ref x :: st) σ τ := rr_aload_n dX10_nameOf_122 rfl
theorem r98_123 (d : Nat) (ls st : List Value) (σ : am_St) (τ : Int64) (k : Nat) : am_run d 98 123 ls (.ref k :: st) σ τ = am_gf k 10 16 σ τ (fun v => am_run d 98 126 ls (v :: st) σ τ) := rr_getf dX10_nameOf_123 (by decide +kernel)
theorem r98_126 (d : Nat) (st : List Value) (σ : am_St) (τ : Int64) (x : Int32) (v0 v1 v2 : Value) : am_run d 98 126 [v0, v1, v2, .int x] st σ τ = am_run d 98 127 [v0, v1, v2, .int x] (.int x :: st) σ τ := rr_iload_n dX10_nameOf_126 rfl
theorem r98_127 (d : Nat) (ls st : List Value) (σ : am_St) (τ : Int64) (i : Int32) (k : Nat) : am_run d 98 127 ls (.int i :: .ref k :: st) σ τ = am_ai false k i (fun j => am_run d 98 128 ls (.int (σ k j) :: st) σ τ) := rr_iald dX10_nameOf_127
theorem r98_128 (d : Nat) (st : List Value) (σ : am_St) (τ : Int64) (x : Nat) (v1 v2 v3 : Value) : am_run d 98 128 [.ref x, v1, v2, v3] st σ τ = am_run d 98 129 [.ref x, v1, v2, v3] (.ref x :: st) σ τ := rr_aload_n dX10_nameOf_128 rfl
theorem r98_129 (d : Nat) (ls st : List Value) (σ : am_St) (τ : Int64) (k : Nat) : am_run d 98 129 ls (.ref k :: st) σ τ = am_gf k 10 16 σ τ (fun v => am_run d 98 132 ls (v :: st) σ τ) := rr_getf dX10_nameOf_129 (by decide +kernel)
theorem r98_132 (d : Nat) (st : List Value) (σ : am_St) (τ : Int64) (x : Nat) (v1 v2 v3 : Value) : am_run d 98 132 [.ref x, v1, v2, v3] st σ τ = am_run d 98 133 [.ref x, v1, v2, v3] (.ref x :: st) σ τ := rr_aload_n dX10_nameOf_132 rfl
theorem r98_133 (d : Nat) (ls st : List Value) (σ : am_St) (τ : Int64) (k : Nat) : am_run d 98 133 ls (.ref k :: st) σ τ = am_gf k 10 17 σ τ (fun v => am_run d 98 136 ls (v :: st) σ τ) := rr_getf dX10_nameOf_133 (by decide +kernel)
theorem r98_136 (d : Nat) (st : List Value) (σ : am_St) (τ : Int64) (x : Int32) (v0 v2 v3 : Value) : am_run d 98 136 [v0, .int x, v2, v3] st σ τ = am_run d 98 137 [v0, .int x, v2, v3] (.int x :: st) σ τ := rr_iload_n dX10_nameOf_136 rfl
theorem r98_137 (d : Nat) (ls st : List Value) (σ : am_St) (τ : Int64) (i : Int32) (k : Nat) : am_run d 98 137 ls (.int i :: .ref k :: st) σ τ = am_ai false k i (fun j => am_run d 98 138 ls (.int (σ k j) :: st) σ τ) := rr_iald dX10_nameOf_137
theorem r98_138 (d : Nat) (ls st : List Value) (σ : am_St) (τ : Int64) (i : Int32) (k : Nat) : am_run d 98 138 ls (.int i :: .ref k :: st) σ τ = am_ai false k i (fun j => am_run d 98 139 ls (.int (σ k j) :: st) σ τ) := rr_iald dX10_nameOf_138
theorem r98_139 (d : Nat) (ls st : List Value) (σ : am_St) (τ : Int64) (x y : Int32) : am_run d 98 139 ls (.int y :: .int x :: st) σ τ = if x = y then am_run d 98 146 ls st σ τ else am_run d 98 142 ls st σ τ := (rr_icmp 146 dX10_nameOf_139 (by decide)).trans am_sel
theorem r98_142 (d : Nat) (ls st : List Value) (σ : am_St) (τ : Int64) : am_run d 98 142 ls st σ τ = am_run d 98 143 ls (.int 1 :: st) σ τ := rr_iconst 1 dX10_nameOf_142 (by decide)
theorem r98_143 (d : Nat) (ls st : List Value) (σ : am_St) (τ : Int64) : am_run d 98 143 ls st σ τ = am_run d 98 147 ls st σ τ := rr_goto 147 dX10_nameOf_143 (by decide)
theorem r98_146 (d : Nat) (ls st : List Value) (σ : am_St) (τ : Int64) : am_run d 98 146 ls st σ τ = am_run d 98 147 ls (.int 0 :: st) σ τ := rr_iconst 0 dX10_nameOf_146 (by decide)
theorem r98_147 (d : Nat) (st : List Value) (σ : am_St) (τ : Int64) (x : Int32) (v0 v1 v2 v3 : Value) : am_run d 98 147 [v0, v1, v2, v3] (.int x :: st) σ τ = am_run d 98 148 [v0, am_nl v1, .int x, v3] st σ τ := rr_istore_n _ dX10_nameOf_147 (by decide) (by first | rfl | (by_cases h : v1.category = 2 <;> simp [am_set1, am_nl, h]))
theorem r98_148 (d : Nat) (st : List Value) (σ : am_St) (τ : Int64) (x : Int32) (v0 v1 v2 : Value) : am_run d 98 148 [v0, v1, v2, .int x] st σ τ = am_run d 98 151 [v0, v1, am_nl v2, .int (x + 1)] st σ τ := rr_iinc 1 _ dX10_nameOf_148 rfl (by decide) (by decide) (by first | rfl | (by_cases h : v2.category = 2 <;> simp [am_set1, am_nl, h]))
theorem r98_151 (d : Nat) (ls st : List Value) (σ : am_St) (τ : Int64) : am_run d 98 151 ls st σ τ = am_run d 98 98 ls st σ τ := rr_goto 98 dX10_nameOf_151 (by decide)
theorem r98_154 (d : Nat) (st : List Value) (σ : am_St) (τ : Int64) (x : Int32) (v0 v1 v3 : Value) : am_run d 98 154 [v0, v1, .int x, v3] st σ τ = am_run d 98 155 [v0, v1, .int x, v3] (.int x :: st) σ τ := rr_iload_n dX10_nameOf_154 rfl
theorem r98_155 (d : Nat) (ls st : List Value) (σ : am_St) (τ : Int64) (x : Int32) : am_run d 98 155 ls (.int x :: st) σ τ = if x = 0 then am_run d 98 172 ls st σ τ else am_run d 98 158 ls st σ τ := (rr_if 172 dX10_nameOf_155 (by decide)).trans am_sel
theorem r98_158 (d : Nat) (st : List Value) (σ : am_St) (τ : Int64) (x : Nat) (v1 v2 v3 : Value) : am_run d 98 158 [.ref x, v1, v2, v3] st σ τ = am_run d 98 159 [.ref x, v1, v2, v3] (.ref x :: st) σ τ := rr_aload_n dX10_nameOf_158 rfl
theorem r98_159 (d : Nat) (ls st : List Value) (σ : am_St) (τ : Int64) (k : Nat) : am_run d 98 159 ls (.ref k :: st) σ τ = am_gf k 10 16 σ τ (fun v => am_run d 98 162 ls (v :: st) σ τ) := rr_getf dX10_nameOf_159 (by decide +kernel)
theorem r98_162 (d : Nat) (st : List Value) (σ : am_St) (τ : Int64) (x : Nat) (v1 v2 v3 : Value) : am_run d 98 162 [.ref x, v1, v2, v3] st σ τ = am_run d 98 163 [.ref x, v1, v2, v3] (.ref x :: st) σ τ := rr_aload_n dX10_nameOf_162 rfl
theorem r98_163 (d : Nat) (ls st : List Value) (σ : am_St) (τ : Int64) (k : Nat) : am_run d 98 163 ls (.ref k :: st) σ τ = am_gf k 10 17 σ τ (fun v => am_run d 98 166 ls (v :: st) σ τ) := rr_getf dX10_nameOf_163 (by decide +kernel)
theorem r98_166 (d : Nat) (st : List Value) (σ : am_St) (τ : Int64) (x : Int32) (v0 v2 v3 : Value) : am_run d 98 166 [v0, .int x, v2, v3] st σ τ = am_run d 98 167 [v0, .int x, v2, v3] (.int x :: st) σ τ := rr_iload_n dX10_nameOf_166 rfl
theorem r98_167 (d : Nat) (ls st : List Value) (σ : am_St) (τ : Int64) (i : Int32) (k : Nat) : am_run d 98 167 ls (.int i :: .ref k :: st) σ τ = am_ai false k i (fun j => am_run d 98 168 ls (.int (σ k j) :: st) σ τ) := rr_iald dX10_nameOf_167
theorem r98_168 (d : Nat) (ls st : List Value) (σ : am_St) (τ : Int64) (i : Int32) (k : Nat) : am_run d 98 168 ls (.int i :: .ref k :: st) σ τ = am_ai false k i (fun j => am_run d 98 169 ls (.int (σ k j) :: st) σ τ) := rr_iald dX10_nameOf_168
theorem r98_169 (d : Nat) (ls st : List Value) (σ : am_St) (τ : Int64) : am_run d 98 169 ls st σ τ = am_run d 98 183 ls st σ τ := rr_goto 183 dX10_nameOf_169 (by decide)
theorem r98_172 (d : Nat) (st : List Value) (σ : am_St) (τ : Int64) (x : Nat) (v1 v2 v3 : Value) : am_run d 98 172 [.ref x, v1, v2, v3] st σ τ = am_run d 98 173 [.ref x, v1, v2, v3] (.ref x :: st) σ τ := rr_aload_n dX10_nameOf_172 rfl
theorem r98_173 (d : Nat) (st : List Value) (σ : am_St) (τ : Int64) (x : Nat) (v1 v2 v3 : Value) : am_run d 98 173 [.ref x, v1, v2, v3] st σ τ = am_run d 98 174 [.ref x, v1, v2, v3] (.ref x :: st) σ τ := rr_aload_n dX10_nameOf_173 rfl
theorem r98_174 (d : Nat) (ls st : List Value) (σ : am_St) (τ : Int64) (k : Nat) : am_run d 98 174 ls (.ref k :: st) σ τ = am_gf k 10 19 σ τ (fun v => am_run d 98 177 ls (v :: st) σ τ) := rr_getf dX10_nameOf_174 (by decide +kernel)
theorem r98_177 (d : Nat) (ls st : List Value) (σ : am_St) (τ : Int64) : am_run d 98 177 ls st σ τ = am_run d 98 178 ls (.int 3 :: st) σ τ := rr_iconst 3 dX10_nameOf_177 (by decide)
theorem r98_178 (d : Nat) (ls st : List Value) (σ : am_St) (τ : Int64) (i : Int32) (k : Nat) : am_run d 98 178 ls (.int i :: .ref k :: st) σ τ = am_ai false k i (fun j => am_run d 98 179 ls (.int (σ k j) :: st) σ τ) := rr_iald dX10_nameOf_178
theorem r98_179 (d : Nat) (st : List Value) (σ : am_St) (τ : Int64) (x : Int32) (v0 v2 v3 : Value) : am_run d 98 179 [v0, .int x, v2, v3] st σ τ = am_run d 98 180 [v0, .int x, v2, v3] (.int x :: st) σ τ := rr_iload_n dX10_nameOf_179 rfl
theorem r98_180 (d : Nat) (ls st : List Value) (σ : am_St) (τ : Int64) (k : Nat) (a0 : Int32) (a1 : Int32) (hk : am_kc k = 10) (hc : am_cats st ≤ 8) : am_run (d + 1) 98 180 ls (.int a1 :: .int a0 :: .ref k :: st) σ τ = (am_call d 96 [.ref k, .int a0, .int a1] σ τ).bind (fun r => am_run (d + 1) 98 183 ls (r.1.toList ++ st) r.2.1 r.2.2) := rr_invv [.int a0, .int a1] dX10_nameOf_180 (by decide +kernel) (by decide) rfl (Nat.le_of_ble_eq_true rfl) hk hc
theorem r98_183 (d : Nat) (ls : List Value) (σ : am_St) (τ : Int64) (x : Int32) : am_run d 98 183 ls [.int x] σ τ = some (some (.int x), σ, τ) := rr_iret dX10_nameOf_183 rfl
theorem dX10_layNames_0 : decode (am_code 99) 0 = .ok (.iconst 0, 1) := by decide +kernel
theorem dX10_layNames_1 : decode (am_code 99) 1 = .ok (.istore_n 1, 1) := by decide +kernel
theorem dX10_layNames_2 : decode (am_code 99) 2 = .ok (.iload_n 1, 1) := by decide +kernel
theorem dX10_layNames_3 : decode (am_code 99) 3 = .ok (.aload_n 0, 1) := by decide +kernel
theorem dX10_layNames_4 : decode (am_code 99) 4 = .ok (.getfield 129, 3) := by decide +kernel
theorem dX10_layNames_7 : decode (am_code 99) 7 = .ok (.if_icmp .ge 20, 3) := by decide +kernel
theorem dX10_layNames_10 : decode (am_code 99) 10 = .ok (.aload_n 0, 1) := by decide +kernel
theorem dX10_layNames_11 : decode (am_code 99) 11 = .ok (.getfield 43, 3) := by decide +kernel
theorem dX10_layNames_14 : decode (am_code 99) 14 = .ok (.iload_n 1, 1) := by decide +kernel
theorem dX10_layNames_15 : decode (am_code 99) 15 = .ok (.aload_n 0, 1) := by decide +kernel
theorem dX10_layNames_16 : decode (am_code 99) 16 = .ok (.iload_n 1, 1) := by decide +kernel
theorem dX10_layNames_17 : decode (am_code 99) 17 = .ok (.invokevirtual 159, 3) := by decide +kernel
theorem dX10_layNames_20 : decode (am_code 99) 20 = .ok (.iastore, 1) := by decide +kernel
theorem dX10_layNames_21 : decode (am_code 99) 21 = .ok (.iinc 1 1, 3) := by decide +kernel
theorem dX10_layNames_24 : decode (am_code 99) 24 = .ok (.goto (-22), 3) := by decide +kernel
theorem dX10_layNames_27 : decode (am_code 99) 27 = .ok (.return_, 1) := by decide +kernel
theorem r99_0 (d : Nat) (ls st : List Value) (σ : am_St) (τ : Int64) : am_run d 99 0 ls st σ τ = am_run d 99 1 ls (.int 0 :: st) σ τ := rr_iconst 0 dX10_layNames_0 (by decide)
theorem r99_1 (d : Nat) (st : List Value) (σ : am_St) (τ : Int64) (x : Int32) (v0 v1 : Value) : am_run d 99 1 [v0, v1] (.int x :: st) σ τ = am_run d 99 2 [am_nl v0, .int x] st σ τ := rr_istore_n _ dX10_layNames_1 (by decide) (by first | rfl | (by_cases h : v0.category = 2 <;> simp [am_set1, am_nl, h]))
theorem r99_2 (d : Nat) (st : List Value) (σ : am_St) (τ : Int64) (x : Int32) (v0 : Value) : am_run d 99 2 [v0, .int x] st σ τ = am_run d 99 3 [v0, .int x] (.int x :: st) σ τ := rr_iload_n dX10_layNames_2 rfl
theorem r99_3 (d : Nat) (st : List Value) (σ : am_St) (τ : Int64) (x : Nat) (v1 : Value) : am_run d 99 3 [.ref x, v1] st σ τ = am_run d 99 4 [.ref x, v1] (.ref x :: st) σ τ := rr_aload_n dX10_layNames_3 rfl
theorem r99_4 (d : Nat) (ls st : List Value) (σ : am_St) (τ : Int64) (k : Nat) : am_run d 99 4 ls (.ref k :: st) σ τ = am_gf k 10 6 σ τ (fun v => am_run d 99 7 ls (v :: st) σ τ) := rr_getf dX10_layNames_4 (by decide +kernel)
theorem r99_7 (d : Nat) (ls st : List Value) (σ : am_St) (τ : Int64) (x y : Int32) : am_run d 99 7 ls (.int y :: .int x :: st) σ τ = if y ≤ x then am_run d 99 27 ls st σ τ else am_run d 99 10 ls st σ τ := (rr_icmp 27 dX10_layNames_7 (by decide)).trans am_sel
theorem r99_10 (d : Nat) (st : List Value) (σ : am_St) (τ : Int64) (x : Nat) (v1 : Value) : am_run d 99 10 [.ref x, v1] st σ τ = am_run d 99 11 [.ref x, v1] (.ref x :: st) σ τ := rr_aload_n dX10_layNames_10 rfl
theorem r99_11 (d : Nat) (ls st : List Value) (σ : am_St) (τ : Int64) (k : Nat) : am_run d 99 11 ls (.ref k :: st) σ τ = am_gf k 10 16 σ τ (fun v => am_run d 99 14 ls (v :: st) σ τ) := rr_getf dX10_layNames_11 (by decide +kernel)
theorem r99_14 (d : Nat) (st : List Value) (σ : am_St) (τ : Int64) (x : Int32) (v0 : Value) : am_run d 99 14 [v0, .int x] st σ τ = am_run d 99 15 [v0, .int x] (.int x :: st) σ τ := rr_iload_n dX10_layNames_14 rfl
theorem r99_15 (d : Nat) (st : List Value) (σ : am_St) (τ : Int64) (x : Nat) (v1 : Value) : am_run d 99 15 [.ref x, v1] st σ τ = am_run d 99 16 [.ref x, v1] (.ref x :: st) σ τ := rr_aload_n dX10_layNames_15 rfl
theorem r99_16 (d : Nat) (st : List Value) (σ : am_St) (τ : Int64) (x : Int32) (v0 : Value) : am_run d 99 16 [v0, .int x] st σ τ = am_run d 99 17 [v0, .int x] (.int x :: st) σ τ := rr_iload_n dX10_layNames_16 rfl
theorem r99_17 (d : Nat) (ls st : List Value) (σ : am_St) (τ : Int64) (k : Nat) (a0 : Int32) (hk : am_kc k = 10) (hc : am_cats st ≤ 8) : am_run (d + 1) 99 17 ls (.int a0 :: .ref k :: st) σ τ = (am_call d 98 [.ref k, .int a0] σ τ).bind (fun r => am_run (d + 1) 99 20 ls (r.1.toList ++ st) r.2.1 r.2.2) := rr_invv [.int a0] dX10_layNames_17 (by decide +kernel) (by decide) rfl (Nat.le_of_ble_eq_true rfl) hk hc
theorem r99_20 (d : Nat) (ls st : List Value) (σ : am_St) (τ : Int64) (x i : Int32) (k : Nat) : am_run d 99 20 ls (.int x :: .int i :: .ref k :: st) σ τ = am_ai false k i (fun j => am_run d 99 21 ls st (am_up σ k j x) τ) := rr_iast dX10_layNames_20
theorem r99_21 (d : Nat) (st : List Value) (σ : am_St) (τ : Int64) (x : Int32) (v0 : Value) : am_run d 99 21 [v0, .int x] st σ τ = am_run d 99 24 [am_nl v0, .int (x + 1)] st σ τ := rr_iinc 1 _ dX10_layNames_21 rfl (by decide) (by decide) (by first | rfl | (by_cases h : v0.category = 2 <;> simp [am_set1, am_nl, h]))
theorem r99_24 (d : Nat) (ls st : List Value) (σ : am_St) (τ : Int64) : am_run d 99 24 ls st σ τ = am_run d 99 2 ls st σ τ := rr_goto 2 dX10_layNames_24 (by decide)
theorem r99_27 (d : Nat) (ls : List Value) (σ : am_St) (τ : Int64) : am_run d 99 27 ls [] σ τ = some (none, σ, τ) := rr_vret dX10_layNames_27 rfl
theorem dX10_asItIs_0 : decode (am_code 100) 0 = .ok (.iconst 0, 1) := by decide +kernel
theorem dX10_asItIs_1 : decode (am_code 100) 1 = .ok (.istore_n 1, 1) := by decide +kernel
theorem dX10_asItIs_2 : decode (am_code 100) 2 = .ok (.iload_n 1, 1) := by decide +kernel
theorem dX10_asItIs_3 : decode (am_code 100) 3 = .ok (.aload_n 0, 1) := by decide +kernel
theorem dX10_asItIs_4 : decode (am_code 100) 4 = .ok (.getfield 129, 3) := by decide +kernel
theorem dX10_asItIs_7 : decode (am_code 100) 7 = .ok (.if_icmp .ge 33, 3) := by decide +kernel
theorem dX10_asItIs_10 : decode (am_code 100) 10 = .ok (.aload_n 0, 1) := by decide +kernel
theorem dX10_asItIs_11 : decode (am_code 100) 11 = .ok (.getfield 46, 3) := by decide +kernel
theorem dX10_asItIs_14 : decode (am_code 100) 14 = .ok (.iload_n 1, 1) := by decide +kernel
theorem dX10_asItIs_15 : decode (am_code 100) 15 = .ok (.aload_n 0, 1) := by decide +kernel
theorem dX10_asItIs_16 : decode (am_code 100) 16 = .ok (.getfield 40, 3) := by decide +kernel
theorem dX10_asItIs_19 : decode (am_code 100) 19 = .ok (.iload_n 1, 1) := by decide +kernel
theorem dX10_asItIs_20 : decode (am_code 100) 20 = .ok (.iaload, 1) := by decide +kernel
theorem dX10_asItIs_21 : decode (am_code 100) 21 = .ok (.iastore, 1) := by decide +kernel
theorem dX10_asItIs_22 : decode (am_code 100) 22 = .ok (.aload_n 0, 1) := by decide +kernel
theorem dX10_asItIs_23 : decode (am_code 100) 23 = .ok (.getfield 49, 3) := by decide +kernel
theorem dX10_asItIs_26 : decode (am_code 100) 26 = .ok (.iload_n 1, 1) := by decide +kernel
theorem dX10_asItIs_27 : decode (am_code 100) 27 = .ok (.aload_n 0, 1) := by decide +kernel
theorem dX10_asItIs_28 : decode (am_code 100) 28 = .ok (.getfield 31, 3) := by decide +kernel
theorem dX10_asItIs_31 : decode (am_code 100) 31 = .ok (.iload_n 1, 1) := by decide +kernel
theorem dX10_asItIs_32 : decode (am_code 100) 32 = .ok (.iaload, 1) := by decide +kernel
theorem dX10_asItIs_33 : decode (am_code 100) 33 = .ok (.iastore, 1) := by decide +kernel
theorem dX10_asItIs_34 : decode (am_code 100) 34 = .ok (.iinc 1 1, 3) := by decide +kernel
theorem dX10_asItIs_37 : decode (am_code 100) 37 = .ok (.goto (-35), 3) := by decide +kernel
theorem dX10_asItIs_40 : decode (am_code 100) 40 = .ok (.iconst 0, 1) := by decide +kernel
theorem dX10_asItIs_41 : decode (am_code 100) 41 = .ok (.istore_n 1, 1) := by decide +kernel
theorem dX10_asItIs_42 : decode (am_code 100) 42 = .ok (.iload_n 1, 1) := by decide +kernel
theorem dX10_asItIs_43 : decode (am_code 100) 43 = .ok (.iconst 4, 1) := by decide +kernel
theorem dX10_asItIs_44 : decode (am_code 100) 44 = .ok (.if_icmp .ge 21, 3) := by decide +kernel
theorem dX10_asItIs_47 : decode (am_code 100) 47 = .ok (.aload_n 0, 1) := by decide +kernel
theorem dX10_asItIs_48 : decode (am_code 100) 48 = .ok (.getfield 52, 3) := by decide +kernel
theorem dX10_asItIs_51 : decode (am_code 100) 51 = .ok (.iload_n 1, 1) := by decide +kernel
theorem dX10_asItIs_52 : decode (am_code 100) 52 = .ok (.aload_n 0, 1) := by decide +kernel
theorem dX10_asItIs_53 : decode (am_code 100) 53 = .ok (.getfield 13, 3) := by decide +kernel
theorem dX10_asItIs_56 : decode (am_code 100) 56 = .ok (.iload_n 1, 1) := by decide +kernel
theorem dX10_asItIs_57 : decode (am_code 100) 57 = .ok (.iaload, 1) := by decide +kernel
theorem dX10_asItIs_58 : decode (am_code 100) 58 = .ok (.iastore, 1) := by decide +kernel
theorem dX10_asItIs_59 : decode (am_code 100) 59 = .ok (.iinc 1 1, 3) := by decide +kernel
theorem dX10_asItIs_62 : decode (am_code 100) 62 = .ok (.goto (-20), 3) := by decide +kernel
theorem dX10_asItIs_65 : decode (am_code 100) 65 = .ok (.return_, 1) := by decide +kernel
theorem r100_0 (d : Nat) (ls st : List Value) (σ : am_St) (τ : Int64) : am_run d 100 0 ls st σ τ = am_run d 100 1 ls (.int 0 :: st) σ τ := rr_iconst 0 dX10_asItIs_0 (by decide)
theorem r100_1 (d : Nat) (st : List Value) (σ : am_St) (τ : Int64) (x : Int32) (v0 v1 : Value) : am_run d 100 1 [v0, v1] (.int x :: st) σ τ = am_run d 100 2 [am_nl v0, .int x] st σ τ := rr_istore_n _ dX10_asItIs_1 (by decide) (by first | rfl | (by_cases h : v0.category = 2 <;> simp [am_set1, am_nl, h]))
theorem r100_2 (d : Nat) (st : List Value) (σ : am_St) (τ : Int64) (x : Int32) (v0 : Value) : am_run d 100 2 [v0, .int x] st σ τ = am_run d 100 3 [v0, .int x] (.int x :: st) σ τ := rr_iload_n dX10_asItIs_2 rfl
theorem r100_3 (d : Nat) (st : List Value) (σ : am_St) (τ : Int64) (x : Nat) (v1 : Value) : am_run d 100 3 [.ref x, v1] st σ τ = am_run d 100 4 [.ref x, v1] (.ref x :: st) σ τ := rr_aload_n dX10_asItIs_3 rfl
theorem r100_4 (d : Nat) (ls st : List Value) (σ : am_St) (τ : Int64) (k : Nat) : am_run d 100 4 ls (.ref k :: st) σ τ = am_gf k 10 6 σ τ (fun v => am_run d 100 7 ls (v :: st) σ τ) := rr_getf dX10_asItIs_4 (by decide +kernel)
theorem r100_7 (d : Nat) (ls st : List Value) (σ : am_St) (τ : Int64) (x y : Int32) : am_run d 100 7 ls (.int y :: .int x :: st) σ τ = if y ≤ x then am_run d 100 40 ls st σ τ else am_run d 100 10 ls st σ τ := (rr_icmp 40 dX10_asItIs_7 (by decide)).trans am_sel
theorem r100_10 (d : Nat) (st : List Value) (σ : am_St) (τ : Int64) (x : Nat) (v1 : Value) : am_run d 100 10 [.ref x, v1] st σ τ = am_run d 100 11 [.ref x, v1] (.ref x :: st) σ τ := rr_aload_n dX10_asItIs_10 rfl
theorem r100_11 (d : Nat) (ls st : List Value) (σ : am_St) (τ : Int64) (k : Nat) : am_run d 100 11 ls (.ref k :: st) σ τ = am_gf k 10 17 σ τ (fun v => am_run d 100 14 ls (v :: st) σ τ) := rr_getf dX10_asItIs_11 (by decide +kernel)
theorem r100_14 (d : Nat) (st : List Value) (σ : am_St) (τ : Int64) (x : Int32) (v0 : Value) : am_run d 100 14 [v0, .int x] st σ τ = am_run d 100 15 [v0, .int x] (.int x :: st) σ τ := rr_iload_n dX10_asItIs_14 rfl
theorem r100_15 (d : Nat) (st : List Value) (σ : am_St) (τ : Int64) (x : Nat) (v1 : Value) : am_run d 100 15 [.ref x, v1] st σ τ = am_run d 100 16 [.ref x, v1] (.ref x :: st) σ τ := rr_aload_n dX10_asItIs_15 rfl
theorem r100_16 (d : Nat) (ls st : List Value) (σ : am_St) (τ : Int64) (k : Nat) : am_run d 100 16 ls (.ref k :: st) σ τ = am_gf k 10 15 σ τ (fun v => am_run d 100 19 ls (v :: st) σ τ) := rr_getf dX10_asItIs_16 (by decide +kernel)
theorem r100_19 (d : Nat) (st : List Value) (σ : am_St) (τ : Int64) (x : Int32) (v0 : Value) : am_run d 100 19 [v0, .int x] st σ τ = am_run d 100 20 [v0, .int x] (.int x :: st) σ τ := rr_iload_n dX10_asItIs_19 rfl
theorem r100_20 (d : Nat) (ls st : List Value) (σ : am_St) (τ : Int64) (i : Int32) (k : Nat) : am_run d 100 20 ls (.int i :: .ref k :: st) σ τ = am_ai false k i (fun j => am_run d 100 21 ls (.int (σ k j) :: st) σ τ) := rr_iald dX10_asItIs_20
theorem r100_21 (d : Nat) (ls st : List Value) (σ : am_St) (τ : Int64) (x i : Int32) (k : Nat) : am_run d 100 21 ls (.int x :: .int i :: .ref k :: st) σ τ = am_ai false k i (fun j => am_run d 100 22 ls st (am_up σ k j x) τ) := rr_iast dX10_asItIs_21
theorem r100_22 (d : Nat) (st : List Value) (σ : am_St) (τ : Int64) (x : Nat) (v1 : Value) : am_run d 100 22 [.ref x, v1] st σ τ = am_run d 100 23 [.ref x, v1] (.ref x :: st) σ τ := rr_aload_n dX10_asItIs_22 rfl
theorem r100_23 (d : Nat) (ls st : List Value) (σ : am_St) (τ : Int64) (k : Nat) : am_run d 100 23 ls (.ref k :: st) σ τ = am_gf k 10 18 σ τ (fun v => am_run d 100 26 ls (v :: st) σ τ) := rr_getf dX10_asItIs_23 (by decide +kernel)
theorem r100_26 (d : Nat) (st : List Value) (σ : am_St) (τ : Int64) (x : Int32) (v0 : Value) : am_run d 100 26 [v0, .int x] st σ τ = am_run d 100 27 [v0, .int x] (.int x :: st) σ τ := rr_iload_n dX10_asItIs_26 rfl
theorem r100_27 (d : Nat) (st : List Value) (σ : am_St) (τ : Int64) (x : Nat) (v1 : Value) : am_run d 100 27 [.ref x, v1] st σ τ = am_run d 100 28 [.ref x, v1] (.ref x :: st) σ τ := rr_aload_n dX10_asItIs_27 rfl
theorem r100_28 (d : Nat) (ls st : List Value) (σ : am_St) (τ : Int64) (k : Nat) : am_run d 100 28 ls (.ref k :: st) σ τ = am_gf k 10 12 σ τ (fun v => am_run d 100 31 ls (v :: st) σ τ) := rr_getf dX10_asItIs_28 (by decide +kernel)
theorem r100_31 (d : Nat) (st : List Value) (σ : am_St) (τ : Int64) (x : Int32) (v0 : Value) : am_run d 100 31 [v0, .int x] st σ τ = am_run d 100 32 [v0, .int x] (.int x :: st) σ τ := rr_iload_n dX10_asItIs_31 rfl
theorem r100_32 (d : Nat) (ls st : List Value) (σ : am_St) (τ : Int64) (i : Int32) (k : Nat) : am_run d 100 32 ls (.int i :: .ref k :: st) σ τ = am_ai false k i (fun j => am_run d 100 33 ls (.int (σ k j) :: st) σ τ) := rr_iald dX10_asItIs_32
theorem r100_33 (d : Nat) (ls st : List Value) (σ : am_St) (τ : Int64) (x i : Int32) (k : Nat) : am_run d 100 33 ls (.int x :: .int i :: .ref k :: st) σ τ = am_ai false k i (fun j => am_run d 100 34 ls st (am_up σ k j x) τ) := rr_iast dX10_asItIs_33
theorem r100_34 (d : Nat) (st : List Value) (σ : am_St) (τ : Int64) (x : Int32) (v0 : Value) : am_run d 100 34 [v0, .int x] st σ τ = am_run d 100 37 [am_nl v0, .int (x + 1)] st σ τ := rr_iinc 1 _ dX10_asItIs_34 rfl (by decide) (by decide) (by first | rfl | (by_cases h : v0.category = 2 <;> simp [am_set1, am_nl, h]))
theorem r100_37 (d : Nat) (ls st : List Value) (σ : am_St) (τ : Int64) : am_run d 100 37 ls st σ τ = am_run d 100 2 ls st σ τ := rr_goto 2 dX10_asItIs_37 (by decide)
theorem r100_40 (d : Nat) (ls st : List Value) (σ : am_St) (τ : Int64) : am_run d 100 40 ls st σ τ = am_run d 100 41 ls (.int 0 :: st) σ τ := rr_iconst 0 dX10_asItIs_40 (by decide)
theorem r100_41 (d : Nat) (st : List Value) (σ : am_St) (τ : Int64) (x : Int32) (v0 v1 : Value) : am_run d 100 41 [v0, v1] (.int x :: st) σ τ = am_run d 100 42 [am_nl v0, .int x] st σ τ := rr_istore_n _ dX10_asItIs_41 (by decide) (by first | rfl | (by_cases h : v0.category = 2 <;> simp [am_set1, am_nl, h]))
theorem r100_42 (d : Nat) (st : List Value) (σ : am_St) (τ : Int64) (x : Int32) (v0 : Value) : am_run d 100 42 [v0, .int x] st σ τ = am_run d 100 43 [v0, .int x] (.int x :: st) σ τ := rr_iload_n dX10_asItIs_42 rfl
theorem r100_43 (d : Nat) (ls st : List Value) (σ : am_St) (τ : Int64) : am_run d 100 43 ls st σ τ = am_run d 100 44 ls (.int 4 :: st) σ τ := rr_iconst 4 dX10_asItIs_43 (by decide)
theorem r100_44 (d : Nat) (ls st : List Value) (σ : am_St) (τ : Int64) (x y : Int32) : am_run d 100 44 ls (.int y :: .int x :: st) σ τ = if y ≤ x then am_run d 100 65 ls st σ τ else am_run d 100 47 ls st σ τ := (rr_icmp 65 dX10_asItIs_44 (by decide)).trans am_sel
theorem r100_47 (d : Nat) (st : List Value) (σ : am_St) (τ : Int64) (x : Nat) (v1 : Value) : am_run d 100 47 [.ref x, v1] st σ τ = am_run d 100 48 [.ref x, v1] (.ref x :: st) σ τ := rr_aload_n dX10_asItIs_47 rfl
theorem r100_48 (d : Nat) (ls st : List Value) (σ : am_St) (τ : Int64) (k : Nat) : am_run d 100 48 ls (.ref k :: st) σ τ = am_gf k 10 19 σ τ (fun v => am_run d 100 51 ls (v :: st) σ τ) := rr_getf dX10_asItIs_48 (by decide +kernel)
theorem r100_51 (d : Nat) (st : List Value) (σ : am_St) (τ : Int64) (x : Int32) (v0 : Value) : am_run d 100 51 [v0, .int x] st σ τ = am_run d 100 52 [v0, .int x] (.int x :: st) σ τ := rr_iload_n dX10_asItIs_51 rfl
theorem r100_52 (d : Nat) (st : List Value) (σ : am_St) (τ : Int64) (x : Nat) (v1 : Value) : am_run d 100 52 [.ref x, v1] st σ τ = am_run d 100 53 [.ref x, v1] (.ref x :: st) σ τ := rr_aload_n dX10_asItIs_52 rfl
theorem r100_53 (d : Nat) (ls st : List Value) (σ : am_St) (τ : Int64) (k : Nat) : am_run d 100 53 ls (.ref k :: st) σ τ = am_gf k 10 2 σ τ (fun v => am_run d 100 56 ls (v :: st) σ τ) := rr_getf dX10_asItIs_53 (by decide +kernel)
theorem r100_56 (d : Nat) (st : List Value) (σ : am_St) (τ : Int64) (x : Int32) (v0 : Value) : am_run d 100 56 [v0, .int x] st σ τ = am_run d 100 57 [v0, .int x] (.int x :: st) σ τ := rr_iload_n dX10_asItIs_56 rfl
theorem r100_57 (d : Nat) (ls st : List Value) (σ : am_St) (τ : Int64) (i : Int32) (k : Nat) : am_run d 100 57 ls (.int i :: .ref k :: st) σ τ = am_ai false k i (fun j => am_run d 100 58 ls (.int (σ k j) :: st) σ τ) := rr_iald dX10_asItIs_57
theorem r100_58 (d : Nat) (ls st : List Value) (σ : am_St) (τ : Int64) (x i : Int32) (k : Nat) : am_run d 100 58 ls (.int x :: .int i :: .ref k :: st) σ τ = am_ai false k i (fun j => am_run d 100 59 ls st (am_up σ k j x) τ) := rr_iast dX10_asItIs_58
theorem r100_59 (d : Nat) (st : List Value) (σ : am_St) (τ : Int64) (x : Int32) (v0 : Value) : am_run d 100 59 [v0, .int x] st σ τ = am_run d 100 62 [am_nl v0, .int (x + 1)] st σ τ := rr_iinc 1 _ dX10_asItIs_59 rfl (by decide) (by decide) (by first | rfl | (by_cases h : v0.category = 2 <;> simp [am_set1, am_nl, h]))
theorem r100_62 (d : Nat) (ls st : List Value) (σ : am_St) (τ : Int64) : am_run d 100 62 ls st σ τ = am_run d 100 42 ls st σ τ := rr_goto 42 dX10_asItIs_62 (by decide)
theorem r100_65 (d : Nat) (ls : List Value) (σ : am_St) (τ : Int64) : am_run d 100 65 ls [] σ τ = some (none, σ, τ) := rr_vret dX10_asItIs_65 rfl
theorem dX10_reckon_0 : decode (am_code 101) 0 = .ok (.aload_n 0, 1) := by decide +kernel
theorem dX10_reckon_1 : decode (am_code 101) 1 = .ok (.invokevirtual 162, 3) := by decide +kernel
theorem dX10_reckon_4 : decode (am_code 101) 4 = .ok (.aload_n 0, 1) := by decide +kernel
theorem dX10_reckon_5 : decode (am_code 101) 5 = .ok (.invokevirtual 165, 3) := by decide +kernel
theorem dX10_reckon_8 : decode (am_code 101) 8 = .ok (.return_, 1) := by decide +kernel
theorem r101_0 (d : Nat) (st : List Value) (σ : am_St) (τ : Int64) (x : Nat) : am_run d 101 0 [.ref x] st σ τ = am_run d 101 1 [.ref x] (.ref x :: st) σ τ := rr_aload_n dX10_reckon_0 rfl
theorem r101_1 (d : Nat) (ls st : List Value) (σ : am_St) (τ : Int64) (k : Nat)  (hk : am_kc k = 10) (hc : am_cats st ≤ 8) : am_run (d + 1) 101 1 ls (.ref k :: st) σ τ = (am_call d 100 [.ref k] σ τ).bind (fun r => am_run (d + 1) 101 4 ls (r.1.toList ++ st) r.2.1 r.2.2) := rr_invv [] dX10_reckon_1 (by decide +kernel) (by decide) rfl (Nat.le_of_ble_eq_true rfl) hk hc
theorem r101_4 (d : Nat) (st : List Value) (σ : am_St) (τ : Int64) (x : Nat) : am_run d 101 4 [.ref x] st σ τ = am_run d 101 5 [.ref x] (.ref x :: st) σ τ := rr_aload_n dX10_reckon_4 rfl
theorem r101_5 (d : Nat) (ls st : List Value) (σ : am_St) (τ : Int64) (k : Nat)  (hk : am_kc k = 10) (hc : am_cats st ≤ 8) : am_run (d + 1) 101 5 ls (.ref k :: st) σ τ = (am_call d 99 [.ref k] σ τ).bind (fun r => am_run (d + 1) 101 8 ls (r.1.toList ++ st) r.2.1 r.2.2) := rr_invv [] dX10_reckon_5 (by decide +kernel) (by decide) rfl (Nat.le_of_ble_eq_true rfl) hk hc
theorem r101_8 (d : Nat) (ls : List Value) (σ : am_St) (τ : Int64) : am_run d 101 8 ls [] σ τ = some (none, σ, τ) := rr_vret dX10_reckon_8 rfl
theorem dX10_wrongMany_0 : decode (am_code 102) 0 = .ok (.iconst 0, 1) := by decide +kernel
theorem dX10_wrongMany_1 : decode (am_code 102) 1 = .ok (.istore_n 1, 1) := by decide +kernel
theorem dX10_wrongMany_2 : decode (am_code 102) 2 = .ok (.iconst 0, 1) := by decide +kernel
theorem dX10_wrongMany_3 : decode (am_code 102) 3 = .ok (.istore_n 2, 1) := by decide +kernel
theorem dX10_wrongMany_4 : decode (am_code 102) 4 = .ok (.iload_n 2, 1) := by decide +kernel
theorem dX10_wrongMany_5 : decode (am_code 102) 5 = .ok (.aload_n 0, 1) := by decide +kernel
theorem dX10_wrongMany_6 : decode (am_code 102) 6 = .ok (.getfield 129, 3) := by decide +kernel
theorem dX10_wrongMany_9 : decode (am_code 102) 9 = .ok (.if_icmp .ge 42, 3) := by decide +kernel
theorem dX10_wrongMany_12 : decode (am_code 102) 12 = .ok (.iload_n 1, 1) := by decide +kernel
theorem dX10_wrongMany_13 : decode (am_code 102) 13 = .ok (.aload_n 0, 1) := by decide +kernel
theorem dX10_wrongMany_14 : decode (am_code 102) 14 = .ok (.getfield 34, 3) := by decide +kernel
theorem dX10_wrongMany_17 : decode (am_code 102) 17 = .ok (.iload_n 2, 1) := by decide +kernel
theorem dX10_wrongMany_18 : decode (am_code 102) 18 = .ok (.iaload, 1) := by decide +kernel
theorem dX10_wrongMany_19 : decode (am_code 102) 19 = .ok (.iconst (-1), 1) := by decide +kernel
theorem dX10_wrongMany_20 : decode (am_code 102) 20 = .ok (.if_icmp .eq 22, 3) := by decide +kernel
theorem dX10_wrongMany_23 : decode (am_code 102) 23 = .ok (.aload_n 0, 1) := by decide +kernel
theorem dX10_wrongMany_24 : decode (am_code 102) 24 = .ok (.getfield 34, 3) := by decide +kernel
theorem dX10_wrongMany_27 : decode (am_code 102) 27 = .ok (.iload_n 2, 1) := by decide +kernel
theorem dX10_wrongMany_28 : decode (am_code 102) 28 = .ok (.iaload, 1) := by decide +kernel
theorem dX10_wrongMany_29 : decode (am_code 102) 29 = .ok (.aload_n 0, 1) := by decide +kernel
theorem dX10_wrongMany_30 : decode (am_code 102) 30 = .ok (.getfield 43, 3) := by decide +kernel
theorem dX10_wrongMany_33 : decode (am_code 102) 33 = .ok (.iload_n 2, 1) := by decide +kernel
theorem dX10_wrongMany_34 : decode (am_code 102) 34 = .ok (.iaload, 1) := by decide +kernel
theorem dX10_wrongMany_35 : decode (am_code 102) 35 = .ok (.if_icmp .eq 7, 3) := by decide +kernel
theorem dX10_wrongMany_38 : decode (am_code 102) 38 = .ok (.iconst 1, 1) := by decide +kernel
theorem dX10_wrongMany_39 : decode (am_code 102) 39 = .ok (.goto 4, 3) := by decide +kernel
theorem dX10_wrongMany_42 : decode (am_code 102) 42 = .ok (.iconst 0, 1) := by decide +kernel
theorem dX10_wrongMany_43 : decode (am_code 102) 43 = .ok (.iadd, 1) := by decide +kernel
theorem dX10_wrongMany_44 : decode (am_code 102) 44 = .ok (.istore_n 1, 1) := by decide +kernel
theorem dX10_wrongMany_45 : decode (am_code 102) 45 = .ok (.iinc 2 1, 3) := by decide +kernel
theorem dX10_wrongMany_48 : decode (am_code 102) 48 = .ok (.goto (-44), 3) := by decide +kernel
theorem dX10_wrongMany_51 : decode (am_code 102) 51 = .ok (.iload_n 1, 1) := by decide +kernel
theorem dX10_wrongMany_52 : decode (am_code 102) 52 = .ok (.ireturn, 1) := by decide +kernel
theorem r102_0 (d : Nat) (ls st : List Value) (σ : am_St) (τ : Int64) : am_run d 102 0 ls st σ τ = am_run d 102 1 ls (.int 0 :: st) σ τ := rr_iconst 0 dX10_wrongMany_0 (by decide)
theorem r102_1 (d : Nat) (st : List Value) (σ : am_St) (τ : Int64) (x : Int32) (v0 v1 v2 : Value) : am_run d 102 1 [v0, v1, v2] (.int x :: st) σ τ = am_run d 102 2 [am_nl v0, .int x, v2] st σ τ := rr_istore_n _ dX10_wrongMany_1 (by decide) (by first | rfl | (by_cases h : v0.category = 2 <;> simp [am_set1, am_nl, h]))
theorem r102_2 (d : Nat) (ls st : List Value) (σ : am_St) (τ : Int64) : am_run d 102 2 ls st σ τ = am_run d 102 3 ls (.int 0 :: st) σ τ := rr_iconst 0 dX10_wrongMany_2 (by decide)
theorem r102_3 (d : Nat) (st : List Value) (σ : am_St) (τ : Int64) (x : Int32) (v0 v1 v2 : Value) : am_run d 102 3 [v0, v1, v2] (.int x :: st) σ τ = am_run d 102 4 [v0, am_nl v1, .int x] st σ τ := rr_istore_n _ dX10_wrongMany_3 (by decide) (by first | rfl | (by_cases h : v1.category = 2 <;> simp [am_set1, am_nl, h]))
theorem r102_4 (d : Nat) (st : List Value) (σ : am_St) (τ : Int64) (x : Int32) (v0 v1 : Value) : am_run d 102 4 [v0, v1, .int x] st σ τ = am_run d 102 5 [v0, v1, .int x] (.int x :: st) σ τ := rr_iload_n dX10_wrongMany_4 rfl
theorem r102_5 (d : Nat) (st : List Value) (σ : am_St) (τ : Int64) (x : Nat) (v1 v2 : Value) : am_run d 102 5 [.ref x, v1, v2] st σ τ = am_run d 102 6 [.ref x, v1, v2] (.ref x :: st) σ τ := rr_aload_n dX10_wrongMany_5 rfl
theorem r102_6 (d : Nat) (ls st : List Value) (σ : am_St) (τ : Int64) (k : Nat) : am_run d 102 6 ls (.ref k :: st) σ τ = am_gf k 10 6 σ τ (fun v => am_run d 102 9 ls (v :: st) σ τ) := rr_getf dX10_wrongMany_6 (by decide +kernel)
theorem r102_9 (d : Nat) (ls st : List Value) (σ : am_St) (τ : Int64) (x y : Int32) : am_run d 102 9 ls (.int y :: .int x :: st) σ τ = if y ≤ x then am_run d 102 51 ls st σ τ else am_run d 102 12 ls st σ τ := (rr_icmp 51 dX10_wrongMany_9 (by decide)).trans am_sel
theorem r102_12 (d : Nat) (st : List Value) (σ : am_St) (τ : Int64) (x : Int32) (v0 v2 : Value) : am_run d 102 12 [v0, .int x, v2] st σ τ = am_run d 102 13 [v0, .int x, v2] (.int x :: st) σ τ := rr_iload_n dX10_wrongMany_12 rfl
theorem r102_13 (d : Nat) (st : List Value) (σ : am_St) (τ : Int64) (x : Nat) (v1 v2 : Value) : am_run d 102 13 [.ref x, v1, v2] st σ τ = am_run d 102 14 [.ref x, v1, v2] (.ref x :: st) σ τ := rr_aload_n dX10_wrongMany_13 rfl
theorem r102_14 (d : Nat) (ls st : List Value) (σ : am_St) (τ : Int64) (k : Nat) : am_run d 102 14 ls (.ref k :: st) σ τ = am_gf k 10 13 σ τ (fun v => am_run d 102 17 ls (v :: st) σ τ) := rr_getf dX10_wrongMany_14 (by decide +kernel)
theorem r102_17 (d : Nat) (st : List Value) (σ : am_St) (τ : Int64) (x : Int32) (v0 v1 : Value) : am_run d 102 17 [v0, v1, .int x] st σ τ = am_run d 102 18 [v0, v1, .int x] (.int x :: st) σ τ := rr_iload_n dX10_wrongMany_17 rfl
theorem r102_18 (d : Nat) (ls st : List Value) (σ : am_St) (τ : Int64) (i : Int32) (k : Nat) : am_run d 102 18 ls (.int i :: .ref k :: st) σ τ = am_ai false k i (fun j => am_run d 102 19 ls (.int (σ k j) :: st) σ τ) := rr_iald dX10_wrongMany_18
theorem r102_19 (d : Nat) (ls st : List Value) (σ : am_St) (τ : Int64) : am_run d 102 19 ls st σ τ = am_run d 102 20 ls (.int (-1) :: st) σ τ := rr_iconst (-1) dX10_wrongMany_19 (by decide)
theorem r102_20 (d : Nat) (ls st : List Value) (σ : am_St) (τ : Int64) (x y : Int32) : am_run d 102 20 ls (.int y :: .int x :: st) σ τ = if x = y then am_run d 102 42 ls st σ τ else am_run d 102 23 ls st σ τ := (rr_icmp 42 dX10_wrongMany_20 (by decide)).trans am_sel
theorem r102_23 (d : Nat) (st : List Value) (σ : am_St) (τ : Int64) (x : Nat) (v1 v2 : Value) : am_run d 102 23 [.ref x, v1, v2] st σ τ = am_run d 102 24 [.ref x, v1, v2] (.ref x :: st) σ τ := rr_aload_n dX10_wrongMany_23 rfl
theorem r102_24 (d : Nat) (ls st : List Value) (σ : am_St) (τ : Int64) (k : Nat) : am_run d 102 24 ls (.ref k :: st) σ τ = am_gf k 10 13 σ τ (fun v => am_run d 102 27 ls (v :: st) σ τ) := rr_getf dX10_wrongMany_24 (by decide +kernel)
theorem r102_27 (d : Nat) (st : List Value) (σ : am_St) (τ : Int64) (x : Int32) (v0 v1 : Value) : am_run d 102 27 [v0, v1, .int x] st σ τ = am_run d 102 28 [v0, v1, .int x] (.int x :: st) σ τ := rr_iload_n dX10_wrongMany_27 rfl
theorem r102_28 (d : Nat) (ls st : List Value) (σ : am_St) (τ : Int64) (i : Int32) (k : Nat) : am_run d 102 28 ls (.int i :: .ref k :: st) σ τ = am_ai false k i (fun j => am_run d 102 29 ls (.int (σ k j) :: st) σ τ) := rr_iald dX10_wrongMany_28
theorem r102_29 (d : Nat) (st : List Value) (σ : am_St) (τ : Int64) (x : Nat) (v1 v2 : Value) : am_run d 102 29 [.ref x, v1, v2] st σ τ = am_run d 102 30 [.ref x, v1, v2] (.ref x :: st) σ τ := rr_aload_n dX10_wrongMany_29 rfl
theorem r102_30 (d : Nat) (ls st : List Value) (σ : am_St) (τ : Int64) (k : Nat) : am_run d 102 30 ls (.ref k :: st) σ τ = am_gf k 10 16 σ τ (fun v => am_run d 102 33 ls (v :: st) σ τ) := rr_getf dX10_wrongMany_30 (by decide +kernel)
theorem r102_33 (d : Nat) (st : List Value) (σ : am_St) (τ : Int64) (x : Int32) (v0 v1 : Value) : am_run d 102 33 [v0, v1, .int x] st σ τ = am_run d 102 34 [v0, v1, .int x] (.int x :: st) σ τ := rr_iload_n dX10_wrongMany_33 rfl
theorem r102_34 (d : Nat) (ls st : List Value) (σ : am_St) (τ : Int64) (i : Int32) (k : Nat) : am_run d 102 34 ls (.int i :: .ref k :: st) σ τ = am_ai false k i (fun j => am_run d 102 35 ls (.int (σ k j) :: st) σ τ) := rr_iald dX10_wrongMany_34
theorem r102_35 (d : Nat) (ls st : List Value) (σ : am_St) (τ : Int64) (x y : Int32) : am_run d 102 35 ls (.int y :: .int x :: st) σ τ = if x = y then am_run d 102 42 ls st σ τ else am_run d 102 38 ls st σ τ := (rr_icmp 42 dX10_wrongMany_35 (by decide)).trans am_sel
theorem r102_38 (d : Nat) (ls st : List Value) (σ : am_St) (τ : Int64) : am_run d 102 38 ls st σ τ = am_run d 102 39 ls (.int 1 :: st) σ τ := rr_iconst 1 dX10_wrongMany_38 (by decide)
theorem r102_39 (d : Nat) (ls st : List Value) (σ : am_St) (τ : Int64) : am_run d 102 39 ls st σ τ = am_run d 102 43 ls st σ τ := rr_goto 43 dX10_wrongMany_39 (by decide)
theorem r102_42 (d : Nat) (ls st : List Value) (σ : am_St) (τ : Int64) : am_run d 102 42 ls st σ τ = am_run d 102 43 ls (.int 0 :: st) σ τ := rr_iconst 0 dX10_wrongMany_42 (by decide)
theorem r102_43 (d : Nat) (ls st : List Value) (σ : am_St) (τ : Int64) (x y : Int32) : am_run d 102 43 ls (.int y :: .int x :: st) σ τ = am_run d 102 44 ls (.int (x + y) :: st) σ τ := rr_iadd dX10_wrongMany_43
theorem r102_44 (d : Nat) (st : List Value) (σ : am_St) (τ : Int64) (x : Int32) (v0 v1 v2 : Value) : am_run d 102 44 [v0, v1, v2] (.int x :: st) σ τ = am_run d 102 45 [am_nl v0, .int x, v2] st σ τ := rr_istore_n _ dX10_wrongMany_44 (by decide) (by first | rfl | (by_cases h : v0.category = 2 <;> simp [am_set1, am_nl, h]))
theorem r102_45 (d : Nat) (st : List Value) (σ : am_St) (τ : Int64) (x : Int32) (v0 v1 : Value) : am_run d 102 45 [v0, v1, .int x] st σ τ = am_run d 102 48 [v0, am_nl v1, .int (x + 1)] st σ τ := rr_iinc 1 _ dX10_wrongMany_45 rfl (by decide) (by decide) (by first | rfl | (by_cases h : v1.category = 2 <;> simp [am_set1, am_nl, h]))
theorem r102_48 (d : Nat) (ls st : List Value) (σ : am_St) (τ : Int64) : am_run d 102 48 ls st σ τ = am_run d 102 4 ls st σ τ := rr_goto 4 dX10_wrongMany_48 (by decide)
theorem r102_51 (d : Nat) (st : List Value) (σ : am_St) (τ : Int64) (x : Int32) (v0 v2 : Value) : am_run d 102 51 [v0, .int x, v2] st σ τ = am_run d 102 52 [v0, .int x, v2] (.int x :: st) σ τ := rr_iload_n dX10_wrongMany_51 rfl
theorem r102_52 (d : Nat) (ls : List Value) (σ : am_St) (τ : Int64) (x : Int32) : am_run d 102 52 ls [.int x] σ τ = some (some (.int x), σ, τ) := rr_iret dX10_wrongMany_52 rfl
theorem dX10_generationOf_0 : decode (am_code 103) 0 = .ok (.iconst 0, 1) := by decide +kernel
theorem dX10_generationOf_1 : decode (am_code 103) 1 = .ok (.istore_n 2, 1) := by decide +kernel
theorem dX10_generationOf_2 : decode (am_code 103) 2 = .ok (.iload_n 2, 1) := by decide +kernel
theorem dX10_generationOf_3 : decode (am_code 103) 3 = .ok (.iload_n 1, 1) := by decide +kernel
theorem dX10_generationOf_4 : decode (am_code 103) 4 = .ok (.if_icmp .gt 82, 3) := by decide +kernel
theorem dX10_generationOf_7 : decode (am_code 103) 7 = .ok (.aload_n 0, 1) := by decide +kernel
theorem dX10_generationOf_8 : decode (am_code 103) 8 = .ok (.getfield 40, 3) := by decide +kernel
theorem dX10_generationOf_11 : decode (am_code 103) 11 = .ok (.iload_n 2, 1) := by decide +kernel
theorem dX10_generationOf_12 : decode (am_code 103) 12 = .ok (.iaload, 1) := by decide +kernel
theorem dX10_generationOf_13 : decode (am_code 103) 13 = .ok (.iconst (-1), 1) := by decide +kernel
theorem dX10_generationOf_14 : decode (am_code 103) 14 = .ok (.if_icmp .ne 7, 3) := by decide +kernel
theorem dX10_generationOf_17 : decode (am_code 103) 17 = .ok (.iconst (-1), 1) := by decide +kernel
theorem dX10_generationOf_18 : decode (am_code 103) 18 = .ok (.goto 14, 3) := by decide +kernel
theorem dX10_generationOf_21 : decode (am_code 103) 21 = .ok (.aload_n 0, 1) := by decide +kernel
theorem dX10_generationOf_22 : decode (am_code 103) 22 = .ok (.getfield 55, 3) := by decide +kernel
theorem dX10_generationOf_25 : decode (am_code 103) 25 = .ok (.aload_n 0, 1) := by decide +kernel
theorem dX10_generationOf_26 : decode (am_code 103) 26 = .ok (.getfield 40, 3) := by decide +kernel
theorem dX10_generationOf_29 : decode (am_code 103) 29 = .ok (.iload_n 2, 1) := by decide +kernel
theorem dX10_generationOf_30 : decode (am_code 103) 30 = .ok (.iaload, 1) := by decide +kernel
theorem dX10_generationOf_31 : decode (am_code 103) 31 = .ok (.iaload, 1) := by decide +kernel
theorem dX10_generationOf_32 : decode (am_code 103) 32 = .ok (.istore_n 3, 1) := by decide +kernel
theorem dX10_generationOf_33 : decode (am_code 103) 33 = .ok (.aload_n 0, 1) := by decide +kernel
theorem dX10_generationOf_34 : decode (am_code 103) 34 = .ok (.getfield 28, 3) := by decide +kernel
theorem dX10_generationOf_37 : decode (am_code 103) 37 = .ok (.iload_n 2, 1) := by decide +kernel
theorem dX10_generationOf_38 : decode (am_code 103) 38 = .ok (.iaload, 1) := by decide +kernel
theorem dX10_generationOf_39 : decode (am_code 103) 39 = .ok (.iconst (-1), 1) := by decide +kernel
theorem dX10_generationOf_40 : decode (am_code 103) 40 = .ok (.if_icmp .ne 7, 3) := by decide +kernel
theorem dX10_generationOf_43 : decode (am_code 103) 43 = .ok (.iconst (-1), 1) := by decide +kernel
theorem dX10_generationOf_44 : decode (am_code 103) 44 = .ok (.goto 14, 3) := by decide +kernel
theorem dX10_generationOf_47 : decode (am_code 103) 47 = .ok (.aload_n 0, 1) := by decide +kernel
theorem dX10_generationOf_48 : decode (am_code 103) 48 = .ok (.getfield 55, 3) := by decide +kernel
theorem dX10_generationOf_51 : decode (am_code 103) 51 = .ok (.aload_n 0, 1) := by decide +kernel
theorem dX10_generationOf_52 : decode (am_code 103) 52 = .ok (.getfield 28, 3) := by decide +kernel
theorem dX10_generationOf_55 : decode (am_code 103) 55 = .ok (.iload_n 2, 1) := by decide +kernel
theorem dX10_generationOf_56 : decode (am_code 103) 56 = .ok (.iaload, 1) := by decide +kernel
theorem dX10_generationOf_57 : decode (am_code 103) 57 = .ok (.iaload, 1) := by decide +kernel
theorem dX10_generationOf_58 : decode (am_code 103) 58 = .ok (.istore 4, 2) := by decide +kernel
theorem dX10_generationOf_60 : decode (am_code 103) 60 = .ok (.aload_n 0, 1) := by decide +kernel
theorem dX10_generationOf_61 : decode (am_code 103) 61 = .ok (.getfield 55, 3) := by decide +kernel
theorem dX10_generationOf_64 : decode (am_code 103) 64 = .ok (.iload_n 2, 1) := by decide +kernel
theorem dX10_generationOf_65 : decode (am_code 103) 65 = .ok (.iconst 1, 1) := by decide +kernel
theorem dX10_generationOf_66 : decode (am_code 103) 66 = .ok (.iload_n 3, 1) := by decide +kernel
theorem dX10_generationOf_67 : decode (am_code 103) 67 = .ok (.iload 4, 2) := by decide +kernel
theorem dX10_generationOf_69 : decode (am_code 103) 69 = .ok (.if_icmp .le 7, 3) := by decide +kernel
theorem dX10_generationOf_72 : decode (am_code 103) 72 = .ok (.iload_n 3, 1) := by decide +kernel
theorem dX10_generationOf_73 : decode (am_code 103) 73 = .ok (.goto 5, 3) := by decide +kernel
theorem dX10_generationOf_76 : decode (am_code 103) 76 = .ok (.iload 4, 2) := by decide +kernel
theorem dX10_generationOf_78 : decode (am_code 103) 78 = .ok (.iadd, 1) := by decide +kernel
theorem dX10_generationOf_79 : decode (am_code 103) 79 = .ok (.iastore, 1) := by decide +kernel
theorem dX10_generationOf_80 : decode (am_code 103) 80 = .ok (.iinc 2 1, 3) := by decide +kernel
theorem dX10_generationOf_83 : decode (am_code 103) 83 = .ok (.goto (-81), 3) := by decide +kernel
theorem dX10_generationOf_86 : decode (am_code 103) 86 = .ok (.aload_n 0, 1) := by decide +kernel
theorem dX10_generationOf_87 : decode (am_code 103) 87 = .ok (.getfield 55, 3) := by decide +kernel
theorem dX10_generationOf_90 : decode (am_code 103) 90 = .ok (.iload_n 1, 1) := by decide +kernel
theorem dX10_generationOf_91 : decode (am_code 103) 91 = .ok (.iaload, 1) := by decide +kernel
theorem dX10_generationOf_92 : decode (am_code 103) 92 = .ok (.ireturn, 1) := by decide +kernel
theorem r103_0 (d : Nat) (ls st : List Value) (σ : am_St) (τ : Int64) : am_run d 103 0 ls st σ τ = am_run d 103 1 ls (.int 0 :: st) σ τ := rr_iconst 0 dX10_generationOf_0 (by decide)
theorem r103_1 (d : Nat) (st : List Value) (σ : am_St) (τ : Int64) (x : Int32) (v0 v1 v2 v3 v4 : Value) : am_run d 103 1 [v0, v1, v2, v3, v4] (.int x :: st) σ τ = am_run d 103 2 [v0, am_nl v1, .int x, v3, v4] st σ τ := rr_istore_n _ dX10_generationOf_1 (by decide) (by first | rfl | (by_cases h : v1.category = 2 <;> simp [am_set1, am_nl, h]))
theorem r103_2 (d : Nat) (st : List Value) (σ : am_St) (τ : Int64) (x : Int32) (v0 v1 v3 v4 : Value) : am_run d 103 2 [v0, v1, .int x, v3, v4] st σ τ = am_run d 103 3 [v0, v1, .int x, v3, v4] (.int x :: st) σ τ := rr_iload_n dX10_generationOf_2 rfl
theorem r103_3 (d : Nat) (st : List Value) (σ : am_St) (τ : Int64) (x : Int32) (v0 v2 v3 v4 : Value) : am_run d 103 3 [v0, .int x, v2, v3, v4] st σ τ = am_run d 103 4 [v0, .int x, v2, v3, v4] (.int x :: st) σ τ := rr_iload_n dX10_generationOf_3 rfl
theorem r103_4 (d : Nat) (ls st : List Value) (σ : am_St) (τ : Int64) (x y : Int32) : am_run d 103 4 ls (.int y :: .int x :: st) σ τ = if y < x then am_run d 103 86 ls st σ τ else am_run d 103 7 ls st σ τ := (rr_icmp 86 dX10_generationOf_4 (by decide)).trans am_sel
theorem r103_7 (d : Nat) (st : List Value) (σ : am_St) (τ : Int64) (x : Nat) (v1 v2 v3 v4 : Value) : am_run d 103 7 [.ref x, v1, v2, v3, v4] st σ τ = am_run d 103 8 [.ref x, v1, v2, v3, v4] (.ref x :: st) σ τ := rr_aload_n dX10_generationOf_7 rfl
theorem r103_8 (d : Nat) (ls st : List Value) (σ : am_St) (τ : Int64) (k : Nat) : am_run d 103 8 ls (.ref k :: st) σ τ = am_gf k 10 15 σ τ (fun v => am_run d 103 11 ls (v :: st) σ τ) := rr_getf dX10_generationOf_8 (by decide +kernel)
theorem r103_11 (d : Nat) (st : List Value) (σ : am_St) (τ : Int64) (x : Int32) (v0 v1 v3 v4 : Value) : am_run d 103 11 [v0, v1, .int x, v3, v4] st σ τ = am_run d 103 12 [v0, v1, .int x, v3, v4] (.int x :: st) σ τ := rr_iload_n dX10_generationOf_11 rfl
theorem r103_12 (d : Nat) (ls st : List Value) (σ : am_St) (τ : Int64) (i : Int32) (k : Nat) : am_run d 103 12 ls (.int i :: .ref k :: st) σ τ = am_ai false k i (fun j => am_run d 103 13 ls (.int (σ k j) :: st) σ τ) := rr_iald dX10_generationOf_12
theorem r103_13 (d : Nat) (ls st : List Value) (σ : am_St) (τ : Int64) : am_run d 103 13 ls st σ τ = am_run d 103 14 ls (.int (-1) :: st) σ τ := rr_iconst (-1) dX10_generationOf_13 (by decide)
theorem r103_14 (d : Nat) (ls st : List Value) (σ : am_St) (τ : Int64) (x y : Int32) : am_run d 103 14 ls (.int y :: .int x :: st) σ τ = if x = y then am_run d 103 17 ls st σ τ else am_run d 103 21 ls st σ τ := (rr_icmp 21 dX10_generationOf_14 (by decide)).trans am_seln
theorem r103_17 (d : Nat) (ls st : List Value) (σ : am_St) (τ : Int64) : am_run d 103 17 ls st σ τ = am_run d 103 18 ls (.int (-1) :: st) σ τ := rr_iconst (-1) dX10_generationOf_17 (by decide)
theorem r103_18 (d : Nat) (ls st : List Value) (σ : am_St) (τ : Int64) : am_run d 103 18 ls st σ τ = am_run d 103 32 ls st σ τ := rr_goto 32 dX10_generationOf_18 (by decide)
theorem r103_21 (d : Nat) (st : List Value) (σ : am_St) (τ : Int64) (x : Nat) (v1 v2 v3 v4 : Value) : am_run d 103 21 [.ref x, v1, v2, v3, v4] st σ τ = am_run d 103 22 [.ref x, v1, v2, v3, v4] (.ref x :: st) σ τ := rr_aload_n dX10_generationOf_21 rfl
theorem r103_22 (d : Nat) (ls st : List Value) (σ : am_St) (τ : Int64) (k : Nat) : am_run d 103 22 ls (.ref k :: st) σ τ = am_gf k 10 20 σ τ (fun v => am_run d 103 25 ls (v :: st) σ τ) := rr_getf dX10_generationOf_22 (by decide +kernel)
theorem r103_25 (d : Nat) (st : List Value) (σ : am_St) (τ : Int64) (x : Nat) (v1 v2 v3 v4 : Value) : am_run d 103 25 [.ref x, v1, v2, v3, v4] st σ τ = am_run d 103 26 [.ref x, v1, v2, v3, v4] (.ref x :: st) σ τ := rr_aload_n dX10_generationOf_25 rfl
theorem r103_26 (d : Nat) (ls st : List Value) (σ : am_St) (τ : Int64) (k : Nat) : am_run d 103 26 ls (.ref k :: st) σ τ = am_gf k 10 15 σ τ (fun v => am_run d 103 29 ls (v :: st) σ τ) := rr_getf dX10_generationOf_26 (by decide +kernel)
theorem r103_29 (d : Nat) (st : List Value) (σ : am_St) (τ : Int64) (x : Int32) (v0 v1 v3 v4 : Value) : am_run d 103 29 [v0, v1, .int x, v3, v4] st σ τ = am_run d 103 30 [v0, v1, .int x, v3, v4] (.int x :: st) σ τ := rr_iload_n dX10_generationOf_29 rfl
theorem r103_30 (d : Nat) (ls st : List Value) (σ : am_St) (τ : Int64) (i : Int32) (k : Nat) : am_run d 103 30 ls (.int i :: .ref k :: st) σ τ = am_ai false k i (fun j => am_run d 103 31 ls (.int (σ k j) :: st) σ τ) := rr_iald dX10_generationOf_30
theorem r103_31 (d : Nat) (ls st : List Value) (σ : am_St) (τ : Int64) (i : Int32) (k : Nat) : am_run d 103 31 ls (.int i :: .ref k :: st) σ τ = am_ai false k i (fun j => am_run d 103 32 ls (.int (σ k j) :: st) σ τ) := rr_iald dX10_generationOf_31
theorem r103_32 (d : Nat) (st : List Value) (σ : am_St) (τ : Int64) (x : Int32) (v0 v1 v2 v3 v4 : Value) : am_run d 103 32 [v0, v1, v2, v3, v4] (.int x :: st) σ τ = am_run d 103 33 [v0, v1, am_nl v2, .int x, v4] st σ τ := rr_istore_n _ dX10_generationOf_32 (by decide) (by first | rfl | (by_cases h : v2.category = 2 <;> simp [am_set1, am_nl, h]))
theorem r103_33 (d : Nat) (st : List Value) (σ : am_St) (τ : Int64) (x : Nat) (v1 v2 v3 v4 : Value) : am_run d 103 33 [.ref x, v1, v2, v3, v4] st σ τ = am_run d 103 34 [.ref x, v1, v2, v3, v4] (.ref x :: st) σ τ := rr_aload_n dX10_generationOf_33 rfl
theorem r103_34 (d : Nat) (ls st : List Value) (σ : am_St) (τ : Int64) (k : Nat) : am_run d 103 34 ls (.ref k :: st) σ τ = am_gf k 10 11 σ τ (fun v => am_run d 103 37 ls (v :: st) σ τ) := rr_getf dX10_generationOf_34 (by decide +kernel)
theorem r103_37 (d : Nat) (st : List Value) (σ : am_St) (τ : Int64) (x : Int32) (v0 v1 v3 v4 : Value) : am_run d 103 37 [v0, v1, .int x, v3, v4] st σ τ = am_run d 103 38 [v0, v1, .int x, v3, v4] (.int x :: st) σ τ := rr_iload_n dX10_generationOf_37 rfl
theorem r103_38 (d : Nat) (ls st : List Value) (σ : am_St) (τ : Int64) (i : Int32) (k : Nat) : am_run d 103 38 ls (.int i :: .ref k :: st) σ τ = am_ai false k i (fun j => am_run d 103 39 ls (.int (σ k j) :: st) σ τ) := rr_iald dX10_generationOf_38
theorem r103_39 (d : Nat) (ls st : List Value) (σ : am_St) (τ : Int64) : am_run d 103 39 ls st σ τ = am_run d 103 40 ls (.int (-1) :: st) σ τ := rr_iconst (-1) dX10_generationOf_39 (by decide)
theorem r103_40 (d : Nat) (ls st : List Value) (σ : am_St) (τ : Int64) (x y : Int32) : am_run d 103 40 ls (.int y :: .int x :: st) σ τ = if x = y then am_run d 103 43 ls st σ τ else am_run d 103 47 ls st σ τ := (rr_icmp 47 dX10_generationOf_40 (by decide)).trans am_seln
theorem r103_43 (d : Nat) (ls st : List Value) (σ : am_St) (τ : Int64) : am_run d 103 43 ls st σ τ = am_run d 103 44 ls (.int (-1) :: st) σ τ := rr_iconst (-1) dX10_generationOf_43 (by decide)
theorem r103_44 (d : Nat) (ls st : List Value) (σ : am_St) (τ : Int64) : am_run d 103 44 ls st σ τ = am_run d 103 58 ls st σ τ := rr_goto 58 dX10_generationOf_44 (by decide)
theorem r103_47 (d : Nat) (st : List Value) (σ : am_St) (τ : Int64) (x : Nat) (v1 v2 v3 v4 : Value) : am_run d 103 47 [.ref x, v1, v2, v3, v4] st σ τ = am_run d 103 48 [.ref x, v1, v2, v3, v4] (.ref x :: st) σ τ := rr_aload_n dX10_generationOf_47 rfl
theorem r103_48 (d : Nat) (ls st : List Value) (σ : am_St) (τ : Int64) (k : Nat) : am_run d 103 48 ls (.ref k :: st) σ τ = am_gf k 10 20 σ τ (fun v => am_run d 103 51 ls (v :: st) σ τ) := rr_getf dX10_generationOf_48 (by decide +kernel)
theorem r103_51 (d : Nat) (st : List Value) (σ : am_St) (τ : Int64) (x : Nat) (v1 v2 v3 v4 : Value) : am_run d 103 51 [.ref x, v1, v2, v3, v4] st σ τ = am_run d 103 52 [.ref x, v1, v2, v3, v4] (.ref x :: st) σ τ := rr_aload_n dX10_generationOf_51 rfl
theorem r103_52 (d : Nat) (ls st : List Value) (σ : am_St) (τ : Int64) (k : Nat) : am_run d 103 52 ls (.ref k :: st) σ τ = am_gf k 10 11 σ τ (fun v => am_run d 103 55 ls (v :: st) σ τ) := rr_getf dX10_generationOf_52 (by decide +kernel)
theorem r103_55 (d : Nat) (st : List Value) (σ : am_St) (τ : Int64) (x : Int32) (v0 v1 v3 v4 : Value) : am_run d 103 55 [v0, v1, .int x, v3, v4] st σ τ = am_run d 103 56 [v0, v1, .int x, v3, v4] (.int x :: st) σ τ := rr_iload_n dX10_generationOf_55 rfl
theorem r103_56 (d : Nat) (ls st : List Value) (σ : am_St) (τ : Int64) (i : Int32) (k : Nat) : am_run d 103 56 ls (.int i :: .ref k :: st) σ τ = am_ai false k i (fun j => am_run d 103 57 ls (.int (σ k j) :: st) σ τ) := rr_iald dX10_generationOf_56
theorem r103_57 (d : Nat) (ls st : List Value) (σ : am_St) (τ : Int64) (i : Int32) (k : Nat) : am_run d 103 57 ls (.int i :: .ref k :: st) σ τ = am_ai false k i (fun j => am_run d 103 58 ls (.int (σ k j) :: st) σ τ) := rr_iald dX10_generationOf_57
theorem r103_58 (d : Nat) (st : List Value) (σ : am_St) (τ : Int64) (x : Int32) (v0 v1 v2 v3 v4 : Value) : am_run d 103 58 [v0, v1, v2, v3, v4] (.int x :: st) σ τ = am_run d 103 60 [v0, v1, v2, am_nl v3, .int x] st σ τ := rr_istore _ dX10_generationOf_58 (by decide) (by first | rfl | (by_cases h : v3.category = 2 <;> simp [am_set1, am_nl, h]))
theorem r103_60 (d : Nat) (st : List Value) (σ : am_St) (τ : Int64) (x : Nat) (v1 v2 v3 v4 : Value) : am_run d 103 60 [.ref x, v1, v2, v3, v4] st σ τ = am_run d 103 61 [.ref x, v1, v2, v3, v4] (.ref x :: st) σ τ := rr_aload_n dX10_generationOf_60 rfl
theorem r103_61 (d : Nat) (ls st : List Value) (σ : am_St) (τ : Int64) (k : Nat) : am_run d 103 61 ls (.ref k :: st) σ τ = am_gf k 10 20 σ τ (fun v => am_run d 103 64 ls (v :: st) σ τ) := rr_getf dX10_generationOf_61 (by decide +kernel)
theorem r103_64 (d : Nat) (st : List Value) (σ : am_St) (τ : Int64) (x : Int32) (v0 v1 v3 v4 : Value) : am_run d 103 64 [v0, v1, .int x, v3, v4] st σ τ = am_run d 103 65 [v0, v1, .int x, v3, v4] (.int x :: st) σ τ := rr_iload_n dX10_generationOf_64 rfl
theorem r103_65 (d : Nat) (ls st : List Value) (σ : am_St) (τ : Int64) : am_run d 103 65 ls st σ τ = am_run d 103 66 ls (.int 1 :: st) σ τ := rr_iconst 1 dX10_generationOf_65 (by decide)
theorem r103_66 (d : Nat) (st : List Value) (σ : am_St) (τ : Int64) (x : Int32) (v0 v1 v2 v4 : Value) : am_run d 103 66 [v0, v1, v2, .int x, v4] st σ τ = am_run d 103 67 [v0, v1, v2, .int x, v4] (.int x :: st) σ τ := rr_iload_n dX10_generationOf_66 rfl
theorem r103_67 (d : Nat) (st : List Value) (σ : am_St) (τ : Int64) (x : Int32) (v0 v1 v2 v3 : Value) : am_run d 103 67 [v0, v1, v2, v3, .int x] st σ τ = am_run d 103 69 [v0, v1, v2, v3, .int x] (.int x :: st) σ τ := rr_iload dX10_generationOf_67 rfl
theorem r103_69 (d : Nat) (ls st : List Value) (σ : am_St) (τ : Int64) (x y : Int32) : am_run d 103 69 ls (.int y :: .int x :: st) σ τ = if x ≤ y then am_run d 103 76 ls st σ τ else am_run d 103 72 ls st σ τ := (rr_icmp 76 dX10_generationOf_69 (by decide)).trans am_sel
theorem r103_72 (d : Nat) (st : List Value) (σ : am_St) (τ : Int64) (x : Int32) (v0 v1 v2 v4 : Value) : am_run d 103 72 [v0, v1, v2, .int x, v4] st σ τ = am_run d 103 73 [v0, v1, v2, .int x, v4] (.int x :: st) σ τ := rr_iload_n dX10_generationOf_72 rfl
theorem r103_73 (d : Nat) (ls st : List Value) (σ : am_St) (τ : Int64) : am_run d 103 73 ls st σ τ = am_run d 103 78 ls st σ τ := rr_goto 78 dX10_generationOf_73 (by decide)
theorem r103_76 (d : Nat) (st : List Value) (σ : am_St) (τ : Int64) (x : Int32) (v0 v1 v2 v3 : Value) : am_run d 103 76 [v0, v1, v2, v3, .int x] st σ τ = am_run d 103 78 [v0, v1, v2, v3, .int x] (.int x :: st) σ τ := rr_iload dX10_generationOf_76 rfl
theorem r103_78 (d : Nat) (ls st : List Value) (σ : am_St) (τ : Int64) (x y : Int32) : am_run d 103 78 ls (.int y :: .int x :: st) σ τ = am_run d 103 79 ls (.int (x + y) :: st) σ τ := rr_iadd dX10_generationOf_78
theorem r103_79 (d : Nat) (ls st : List Value) (σ : am_St) (τ : Int64) (x i : Int32) (k : Nat) : am_run d 103 79 ls (.int x :: .int i :: .ref k :: st) σ τ = am_ai false k i (fun j => am_run d 103 80 ls st (am_up σ k j x) τ) := rr_iast dX10_generationOf_79
theorem r103_80 (d : Nat) (st : List Value) (σ : am_St) (τ : Int64) (x : Int32) (v0 v1 v3 v4 : Value) : am_run d 103 80 [v0, v1, .int x, v3, v4] st σ τ = am_run d 103 83 [v0, am_nl v1, .int (x + 1), v3, v4] st σ τ := rr_iinc 1 _ dX10_generationOf_80 rfl (by decide) (by decide) (by first | rfl | (by_cases h : v1.category = 2 <;> simp [am_set1, am_nl, h]))
theorem r103_83 (d : Nat) (ls st : List Value) (σ : am_St) (τ : Int64) : am_run d 103 83 ls st σ τ = am_run d 103 2 ls st σ τ := rr_goto 2 dX10_generationOf_83 (by decide)
theorem r103_86 (d : Nat) (st : List Value) (σ : am_St) (τ : Int64) (x : Nat) (v1 v2 v3 v4 : Value) : am_run d 103 86 [.ref x, v1, v2, v3, v4] st σ τ = am_run d 103 87 [.ref x, v1, v2, v3, v4] (.ref x :: st) σ τ := rr_aload_n dX10_generationOf_86 rfl
theorem r103_87 (d : Nat) (ls st : List Value) (σ : am_St) (τ : Int64) (k : Nat) : am_run d 103 87 ls (.ref k :: st) σ τ = am_gf k 10 20 σ τ (fun v => am_run d 103 90 ls (v :: st) σ τ) := rr_getf dX10_generationOf_87 (by decide +kernel)
theorem r103_90 (d : Nat) (st : List Value) (σ : am_St) (τ : Int64) (x : Int32) (v0 v2 v3 v4 : Value) : am_run d 103 90 [v0, .int x, v2, v3, v4] st σ τ = am_run d 103 91 [v0, .int x, v2, v3, v4] (.int x :: st) σ τ := rr_iload_n dX10_generationOf_90 rfl
theorem r103_91 (d : Nat) (ls st : List Value) (σ : am_St) (τ : Int64) (i : Int32) (k : Nat) : am_run d 103 91 ls (.int i :: .ref k :: st) σ τ = am_ai false k i (fun j => am_run d 103 92 ls (.int (σ k j) :: st) σ τ) := rr_iald dX10_generationOf_91
theorem r103_92 (d : Nat) (ls : List Value) (σ : am_St) (τ : Int64) (x : Int32) : am_run d 103 92 ls [.int x] σ τ = some (some (.int x), σ, τ) := rr_iret dX10_generationOf_92 rfl
theorem dX10_tell_0 : decode (am_code 104) 0 = .ok (.iload_n 2, 1) := by decide +kernel
theorem dX10_tell_1 : decode (am_code 104) 1 = .ok (.tableswitch 106 0 7 #[47, 54, 61, 68, 75, 86, 93, 100], 47) := by decide +kernel
theorem dX10_tell_48 : decode (am_code 104) 48 = .ok (.aload_n 0, 1) := by decide +kernel
theorem dX10_tell_49 : decode (am_code 104) 49 = .ok (.getfield 19, 3) := by decide +kernel
theorem dX10_tell_52 : decode (am_code 104) 52 = .ok (.iload_n 1, 1) := by decide +kernel
theorem dX10_tell_53 : decode (am_code 104) 53 = .ok (.iaload, 1) := by decide +kernel
theorem dX10_tell_54 : decode (am_code 104) 54 = .ok (.ireturn, 1) := by decide +kernel
theorem dX10_tell_55 : decode (am_code 104) 55 = .ok (.aload_n 0, 1) := by decide +kernel
theorem dX10_tell_56 : decode (am_code 104) 56 = .ok (.getfield 22, 3) := by decide +kernel
theorem dX10_tell_59 : decode (am_code 104) 59 = .ok (.iload_n 1, 1) := by decide +kernel
theorem dX10_tell_60 : decode (am_code 104) 60 = .ok (.iaload, 1) := by decide +kernel
theorem dX10_tell_61 : decode (am_code 104) 61 = .ok (.ireturn, 1) := by decide +kernel
theorem dX10_tell_62 : decode (am_code 104) 62 = .ok (.aload_n 0, 1) := by decide +kernel
theorem dX10_tell_63 : decode (am_code 104) 63 = .ok (.getfield 25, 3) := by decide +kernel
theorem dX10_tell_66 : decode (am_code 104) 66 = .ok (.iload_n 1, 1) := by decide +kernel
theorem dX10_tell_67 : decode (am_code 104) 67 = .ok (.iaload, 1) := by decide +kernel
theorem dX10_tell_68 : decode (am_code 104) 68 = .ok (.ireturn, 1) := by decide +kernel
theorem dX10_tell_69 : decode (am_code 104) 69 = .ok (.aload_n 0, 1) := by decide +kernel
theorem dX10_tell_70 : decode (am_code 104) 70 = .ok (.getfield 28, 3) := by decide +kernel
theorem dX10_tell_73 : decode (am_code 104) 73 = .ok (.iload_n 1, 1) := by decide +kernel
theorem dX10_tell_74 : decode (am_code 104) 74 = .ok (.iaload, 1) := by decide +kernel
theorem dX10_tell_75 : decode (am_code 104) 75 = .ok (.ireturn, 1) := by decide +kernel
theorem dX10_tell_76 : decode (am_code 104) 76 = .ok (.aload_n 0, 1) := by decide +kernel
theorem dX10_tell_77 : decode (am_code 104) 77 = .ok (.invokevirtual 168, 3) := by decide +kernel
theorem dX10_tell_80 : decode (am_code 104) 80 = .ok (.aload_n 0, 1) := by decide +kernel
theorem dX10_tell_81 : decode (am_code 104) 81 = .ok (.getfield 43, 3) := by decide +kernel
theorem dX10_tell_84 : decode (am_code 104) 84 = .ok (.iload_n 1, 1) := by decide +kernel
theorem dX10_tell_85 : decode (am_code 104) 85 = .ok (.iaload, 1) := by decide +kernel
theorem dX10_tell_86 : decode (am_code 104) 86 = .ok (.ireturn, 1) := by decide +kernel
theorem dX10_tell_87 : decode (am_code 104) 87 = .ok (.aload_n 0, 1) := by decide +kernel
theorem dX10_tell_88 : decode (am_code 104) 88 = .ok (.getfield 34, 3) := by decide +kernel
theorem dX10_tell_91 : decode (am_code 104) 91 = .ok (.iload_n 1, 1) := by decide +kernel
theorem dX10_tell_92 : decode (am_code 104) 92 = .ok (.iaload, 1) := by decide +kernel
theorem dX10_tell_93 : decode (am_code 104) 93 = .ok (.ireturn, 1) := by decide +kernel
theorem dX10_tell_94 : decode (am_code 104) 94 = .ok (.aload_n 0, 1) := by decide +kernel
theorem dX10_tell_95 : decode (am_code 104) 95 = .ok (.getfield 37, 3) := by decide +kernel
theorem dX10_tell_98 : decode (am_code 104) 98 = .ok (.iload_n 1, 1) := by decide +kernel
theorem dX10_tell_99 : decode (am_code 104) 99 = .ok (.iaload, 1) := by decide +kernel
theorem dX10_tell_100 : decode (am_code 104) 100 = .ok (.ireturn, 1) := by decide +kernel
theorem dX10_tell_101 : decode (am_code 104) 101 = .ok (.aload_n 0, 1) := by decide +kernel
theorem dX10_tell_102 : decode (am_code 104) 102 = .ok (.iload_n 1, 1) := by decide +kernel
theorem dX10_tell_103 : decode (am_code 104) 103 = .ok (.invokevirtual 171, 3) := by decide +kernel
theorem dX10_tell_106 : decode (am_code 104) 106 = .ok (.ireturn, 1) := by decide +kernel
theorem dX10_tell_107 : decode (am_code 104) 107 = .ok (.bipush (-102), 2) := by decide +kernel
theorem dX10_tell_109 : decode (am_code 104) 109 = .ok (.ireturn, 1) := by decide +kernel
theorem r104_0 (d : Nat) (st : List Value) (σ : am_St) (τ : Int64) (x : Int32) (v0 v1 : Value) : am_run d 104 0 [v0, v1, .int x] st σ τ = am_run d 104 1 [v0, v1, .int x] (.int x :: st) σ τ := rr_iload_n dX10_tell_0 rfl
theorem r104_1 (d : Nat) (ls st : List Value) (σ : am_St) (τ : Int64) (x : Int32) : am_run d 104 1 ls (.int x :: st) σ τ = am_run d 104 (am_sw x 0 [48, 55, 62, 69, 76, 87, 94, 101] 107) ls st σ τ := rr_tsw [48, 55, 62, 69, 76, 87, 94, 101] 107 dX10_tell_1 (by decide) (by decide) (by decide)
theorem r104_48 (d : Nat) (st : List Value) (σ : am_St) (τ : Int64) (x : Nat) (v1 v2 : Value) : am_run d 104 48 [.ref x, v1, v2] st σ τ = am_run d 104 49 [.ref x, v1, v2] (.ref x :: st) σ τ := rr_aload_n dX10_tell_48 rfl
theorem r104_49 (d : Nat) (ls st : List Value) (σ : am_St) (τ : Int64) (k : Nat) : am_run d 104 49 ls (.ref k :: st) σ τ = am_gf k 10 8 σ τ (fun v => am_run d 104 52 ls (v :: st) σ τ) := rr_getf dX10_tell_49 (by decide +kernel)
theorem r104_52 (d : Nat) (st : List Value) (σ : am_St) (τ : Int64) (x : Int32) (v0 v2 : Value) : am_run d 104 52 [v0, .int x, v2] st σ τ = am_run d 104 53 [v0, .int x, v2] (.int x :: st) σ τ := rr_iload_n dX10_tell_52 rfl
theorem r104_53 (d : Nat) (ls st : List Value) (σ : am_St) (τ : Int64) (i : Int32) (k : Nat) : am_run d 104 53 ls (.int i :: .ref k :: st) σ τ = am_ai false k i (fun j => am_run d 104 54 ls (.int (σ k j) :: st) σ τ) := rr_iald dX10_tell_53
theorem r104_54 (d : Nat) (ls : List Value) (σ : am_St) (τ : Int64) (x : Int32) : am_run d 104 54 ls [.int x] σ τ = some (some (.int x), σ, τ) := rr_iret dX10_tell_54 rfl
theorem r104_55 (d : Nat) (st : List Value) (σ : am_St) (τ : Int64) (x : Nat) (v1 v2 : Value) : am_run d 104 55 [.ref x, v1, v2] st σ τ = am_run d 104 56 [.ref x, v1, v2] (.ref x :: st) σ τ := rr_aload_n dX10_tell_55 rfl
theorem r104_56 (d : Nat) (ls st : List Value) (σ : am_St) (τ : Int64) (k : Nat) : am_run d 104 56 ls (.ref k :: st) σ τ = am_gf k 10 9 σ τ (fun v => am_run d 104 59 ls (v :: st) σ τ) := rr_getf dX10_tell_56 (by decide +kernel)
theorem r104_59 (d : Nat) (st : List Value) (σ : am_St) (τ : Int64) (x : Int32) (v0 v2 : Value) : am_run d 104 59 [v0, .int x, v2] st σ τ = am_run d 104 60 [v0, .int x, v2] (.int x :: st) σ τ := rr_iload_n dX10_tell_59 rfl
theorem r104_60 (d : Nat) (ls st : List Value) (σ : am_St) (τ : Int64) (i : Int32) (k : Nat) : am_run d 104 60 ls (.int i :: .ref k :: st) σ τ = am_ai false k i (fun j => am_run d 104 61 ls (.int (σ k j) :: st) σ τ) := rr_iald dX10_tell_60
theorem r104_61 (d : Nat) (ls : List Value) (σ : am_St) (τ : Int64) (x : Int32) : am_run d 104 61 ls [.int x] σ τ = some (some (.int x), σ, τ) := rr_iret dX10_tell_61 rfl
theorem r104_62 (d : Nat) (st : List Value) (σ : am_St) (τ : Int64) (x : Nat) (v1 v2 : Value) : am_run d 104 62 [.ref x, v1, v2] st σ τ = am_run d 104 63 [.ref x, v1, v2] (.ref x :: st) σ τ := rr_aload_n dX10_tell_62 rfl
theorem r104_63 (d : Nat) (ls st : List Value) (σ : am_St) (τ : Int64) (k : Nat) : am_run d 104 63 ls (.ref k :: st) σ τ = am_gf k 10 10 σ τ (fun v => am_run d 104 66 ls (v :: st) σ τ) := rr_getf dX10_tell_63 (by decide +kernel)
theorem r104_66 (d : Nat) (st : List Value) (σ : am_St) (τ : Int64) (x : Int32) (v0 v2 : Value) : am_run d 104 66 [v0, .int x, v2] st σ τ = am_run d 104 67 [v0, .int x, v2] (.int x :: st) σ τ := rr_iload_n dX10_tell_66 rfl
theorem r104_67 (d : Nat) (ls st : List Value) (σ : am_St) (τ : Int64) (i : Int32) (k : Nat) : am_run d 104 67 ls (.int i :: .ref k :: st) σ τ = am_ai false k i (fun j => am_run d 104 68 ls (.int (σ k j) :: st) σ τ) := rr_iald dX10_tell_67
theorem r104_68 (d : Nat) (ls : List Value) (σ : am_St) (τ : Int64) (x : Int32) : am_run d 104 68 ls [.int x] σ τ = some (some (.int x), σ, τ) := rr_iret dX10_tell_68 rfl
theorem r104_69 (d : Nat) (st : List Value) (σ : am_St) (τ : Int64) (x : Nat) (v1 v2 : Value) : am_run d 104 69 [.ref x, v1, v2] st σ τ = am_run d 104 70 [.ref x, v1, v2] (.ref x :: st) σ τ := rr_aload_n dX10_tell_69 rfl
theorem r104_70 (d : Nat) (ls st : List Value) (σ : am_St) (τ : Int64) (k : Nat) : am_run d 104 70 ls (.ref k :: st) σ τ = am_gf k 10 11 σ τ (fun v => am_run d 104 73 ls (v :: st) σ τ) := rr_getf dX10_tell_70 (by decide +kernel)
theorem r104_73 (d : Nat) (st : List Value) (σ : am_St) (τ : Int64) (x : Int32) (v0 v2 : Value) : am_run d 104 73 [v0, .int x, v2] st σ τ = am_run d 104 74 [v0, .int x, v2] (.int x :: st) σ τ := rr_iload_n dX10_tell_73 rfl
theorem r104_74 (d : Nat) (ls st : List Value) (σ : am_St) (τ : Int64) (i : Int32) (k : Nat) : am_run d 104 74 ls (.int i :: .ref k :: st) σ τ = am_ai false k i (fun j => am_run d 104 75 ls (.int (σ k j) :: st) σ τ) := rr_iald dX10_tell_74
theorem r104_75 (d : Nat) (ls : List Value) (σ : am_St) (τ : Int64) (x : Int32) : am_run d 104 75 ls [.int x] σ τ = some (some (.int x), σ, τ) := rr_iret dX10_tell_75 rfl
theorem r104_76 (d : Nat) (st : List Value) (σ : am_St) (τ : Int64) (x : Nat) (v1 v2 : Value) : am_run d 104 76 [.ref x, v1, v2] st σ τ = am_run d 104 77 [.ref x, v1, v2] (.ref x :: st) σ τ := rr_aload_n dX10_tell_76 rfl
theorem r104_77 (d : Nat) (ls st : List Value) (σ : am_St) (τ : Int64) (k : Nat)  (hk : am_kc k = 10) (hc : am_cats st ≤ 8) : am_run (d + 1) 104 77 ls (.ref k :: st) σ τ = (am_call d 101 [.ref k] σ τ).bind (fun r => am_run (d + 1) 104 80 ls (r.1.toList ++ st) r.2.1 r.2.2) := rr_invv [] dX10_tell_77 (by decide +kernel) (by decide) rfl (Nat.le_of_ble_eq_true rfl) hk hc
theorem r104_80 (d : Nat) (st : List Value) (σ : am_St) (τ : Int64) (x : Nat) (v1 v2 : Value) : am_run d 104 80 [.ref x, v1, v2] st σ τ = am_run d 104 81 [.ref x, v1, v2] (.ref x :: st) σ τ := rr_aload_n dX10_tell_80 rfl
theorem r104_81 (d : Nat) (ls st : List Value) (σ : am_St) (τ : Int64) (k : Nat) : am_run d 104 81 ls (.ref k :: st) σ τ = am_gf k 10 16 σ τ (fun v => am_run d 104 84 ls (v :: st) σ τ) := rr_getf dX10_tell_81 (by decide +kernel)
theorem r104_84 (d : Nat) (st : List Value) (σ : am_St) (τ : Int64) (x : Int32) (v0 v2 : Value) : am_run d 104 84 [v0, .int x, v2] st σ τ = am_run d 104 85 [v0, .int x, v2] (.int x :: st) σ τ := rr_iload_n dX10_tell_84 rfl
theorem r104_85 (d : Nat) (ls st : List Value) (σ : am_St) (τ : Int64) (i : Int32) (k : Nat) : am_run d 104 85 ls (.int i :: .ref k :: st) σ τ = am_ai false k i (fun j => am_run d 104 86 ls (.int (σ k j) :: st) σ τ) := rr_iald dX10_tell_85
theorem r104_86 (d : Nat) (ls : List Value) (σ : am_St) (τ : Int64) (x : Int32) : am_run d 104 86 ls [.int x] σ τ = some (some (.int x), σ, τ) := rr_iret dX10_tell_86 rfl
theorem r104_87 (d : Nat) (st : List Value) (σ : am_St) (τ : Int64) (x : Nat) (v1 v2 : Value) : am_run d 104 87 [.ref x, v1, v2] st σ τ = am_run d 104 88 [.ref x, v1, v2] (.ref x :: st) σ τ := rr_aload_n dX10_tell_87 rfl
theorem r104_88 (d : Nat) (ls st : List Value) (σ : am_St) (τ : Int64) (k : Nat) : am_run d 104 88 ls (.ref k :: st) σ τ = am_gf k 10 13 σ τ (fun v => am_run d 104 91 ls (v :: st) σ τ) := rr_getf dX10_tell_88 (by decide +kernel)
theorem r104_91 (d : Nat) (st : List Value) (σ : am_St) (τ : Int64) (x : Int32) (v0 v2 : Value) : am_run d 104 91 [v0, .int x, v2] st σ τ = am_run d 104 92 [v0, .int x, v2] (.int x :: st) σ τ := rr_iload_n dX10_tell_91 rfl
theorem r104_92 (d : Nat) (ls st : List Value) (σ : am_St) (τ : Int64) (i : Int32) (k : Nat) : am_run d 104 92 ls (.int i :: .ref k :: st) σ τ = am_ai false k i (fun j => am_run d 104 93 ls (.int (σ k j) :: st) σ τ) := rr_iald dX10_tell_92
theorem r104_93 (d : Nat) (ls : List Value) (σ : am_St) (τ : Int64) (x : Int32) : am_run d 104 93 ls [.int x] σ τ = some (some (.int x), σ, τ) := rr_iret dX10_tell_93 rfl
theorem r104_94 (d : Nat) (st : List Value) (σ : am_St) (τ : Int64) (x : Nat) (v1 v2 : Value) : am_run d 104 94 [.ref x, v1, v2] st σ τ = am_run d 104 95 [.ref x, v1, v2] (.ref x :: st) σ τ := rr_aload_n dX10_tell_94 rfl
theorem r104_95 (d : Nat) (ls st : List Value) (σ : am_St) (τ : Int64) (k : Nat) : am_run d 104 95 ls (.ref k :: st) σ τ = am_gf k 10 14 σ τ (fun v => am_run d 104 98 ls (v :: st) σ τ) := rr_getf dX10_tell_95 (by decide +kernel)
theorem r104_98 (d : Nat) (st : List Value) (σ : am_St) (τ : Int64) (x : Int32) (v0 v2 : Value) : am_run d 104 98 [v0, .int x, v2] st σ τ = am_run d 104 99 [v0, .int x, v2] (.int x :: st) σ τ := rr_iload_n dX10_tell_98 rfl
theorem r104_99 (d : Nat) (ls st : List Value) (σ : am_St) (τ : Int64) (i : Int32) (k : Nat) : am_run d 104 99 ls (.int i :: .ref k :: st) σ τ = am_ai false k i (fun j => am_run d 104 100 ls (.int (σ k j) :: st) σ τ) := rr_iald dX10_tell_99
theorem r104_100 (d : Nat) (ls : List Value) (σ : am_St) (τ : Int64) (x : Int32) : am_run d 104 100 ls [.int x] σ τ = some (some (.int x), σ, τ) := rr_iret dX10_tell_100 rfl
theorem r104_101 (d : Nat) (st : List Value) (σ : am_St) (τ : Int64) (x : Nat) (v1 v2 : Value) : am_run d 104 101 [.ref x, v1, v2] st σ τ = am_run d 104 102 [.ref x, v1, v2] (.ref x :: st) σ τ := rr_aload_n dX10_tell_101 rfl
theorem r104_102 (d : Nat) (st : List Value) (σ : am_St) (τ : Int64) (x : Int32) (v0 v2 : Value) : am_run d 104 102 [v0, .int x, v2] st σ τ = am_run d 104 103 [v0, .int x, v2] (.int x :: st) σ τ := rr_iload_n dX10_tell_102 rfl
theorem r104_103 (d : Nat) (ls st : List Value) (σ : am_St) (τ : Int64) (k : Nat) (a0 : Int32) (hk : am_kc k = 10) (hc : am_cats st ≤ 8) : am_run (d + 1) 104 103 ls (.int a0 :: .ref k :: st) σ τ = (am_call d 103 [.ref k, .int a0] σ τ).bind (fun r => am_run (d + 1) 104 106 ls (r.1.toList ++ st) r.2.1 r.2.2) := rr_invv [.int a0] dX10_tell_103 (by decide +kernel) (by decide) rfl (Nat.le_of_ble_eq_true rfl) hk hc
theorem r104_106 (d : Nat) (ls : List Value) (σ : am_St) (τ : Int64) (x : Int32) : am_run d 104 106 ls [.int x] σ τ = some (some (.int x), σ, τ) := rr_iret dX10_tell_106 rfl
theorem r104_107 (d : Nat) (ls st : List Value) (σ : am_St) (τ : Int64) : am_run d 104 107 ls st σ τ = am_run d 104 109 ls (.int (-102) :: st) σ τ := rr_bipush (-102) dX10_tell_107 (by decide)
theorem r104_109 (d : Nat) (ls : List Value) (σ : am_St) (τ : Int64) (x : Int32) : am_run d 104 109 ls [.int x] σ τ = some (some (.int x), σ, τ) := rr_iret dX10_tell_109 rfl
theorem dX10_about_0 : decode (am_code 105) 0 = .ok (.aload_n 0, 1) := by decide +kernel
theorem dX10_about_1 : decode (am_code 105) 1 = .ok (.iload_n 1, 1) := by decide +kernel
theorem dX10_about_2 : decode (am_code 105) 2 = .ok (.invokevirtual 138, 3) := by decide +kernel
theorem dX10_about_5 : decode (am_code 105) 5 = .ok (.ifCond .eq 12, 3) := by decide +kernel
theorem dX10_about_8 : decode (am_code 105) 8 = .ok (.aload_n 0, 1) := by decide +kernel
theorem dX10_about_9 : decode (am_code 105) 9 = .ok (.iload_n 1, 1) := by decide +kernel
theorem dX10_about_10 : decode (am_code 105) 10 = .ok (.iload_n 2, 1) := by decide +kernel
theorem dX10_about_11 : decode (am_code 105) 11 = .ok (.invokevirtual 174, 3) := by decide +kernel
theorem dX10_about_14 : decode (am_code 105) 14 = .ok (.goto 5, 3) := by decide +kernel
theorem dX10_about_17 : decode (am_code 105) 17 = .ok (.bipush (-101), 2) := by decide +kernel
theorem dX10_about_19 : decode (am_code 105) 19 = .ok (.ireturn, 1) := by decide +kernel
theorem r105_0 (d : Nat) (st : List Value) (σ : am_St) (τ : Int64) (x : Nat) (v1 v2 : Value) : am_run d 105 0 [.ref x, v1, v2] st σ τ = am_run d 105 1 [.ref x, v1, v2] (.ref x :: st) σ τ := rr_aload_n dX10_about_0 rfl
theorem r105_1 (d : Nat) (st : List Value) (σ : am_St) (τ : Int64) (x : Int32) (v0 v2 : Value) : am_run d 105 1 [v0, .int x, v2] st σ τ = am_run d 105 2 [v0, .int x, v2] (.int x :: st) σ τ := rr_iload_n dX10_about_1 rfl
theorem r105_2 (d : Nat) (ls st : List Value) (σ : am_St) (τ : Int64) (k : Nat) (a0 : Int32) (hk : am_kc k = 10) (hc : am_cats st ≤ 8) : am_run (d + 1) 105 2 ls (.int a0 :: .ref k :: st) σ τ = (am_call d 91 [.ref k, .int a0] σ τ).bind (fun r => am_run (d + 1) 105 5 ls (r.1.toList ++ st) r.2.1 r.2.2) := rr_invv [.int a0] dX10_about_2 (by decide +kernel) (by decide) rfl (Nat.le_of_ble_eq_true rfl) hk hc
theorem r105_5 (d : Nat) (ls st : List Value) (σ : am_St) (τ : Int64) (x : Int32) : am_run d 105 5 ls (.int x :: st) σ τ = if x = 0 then am_run d 105 17 ls st σ τ else am_run d 105 8 ls st σ τ := (rr_if 17 dX10_about_5 (by decide)).trans am_sel
theorem r105_8 (d : Nat) (st : List Value) (σ : am_St) (τ : Int64) (x : Nat) (v1 v2 : Value) : am_run d 105 8 [.ref x, v1, v2] st σ τ = am_run d 105 9 [.ref x, v1, v2] (.ref x :: st) σ τ := rr_aload_n dX10_about_8 rfl
theorem r105_9 (d : Nat) (st : List Value) (σ : am_St) (τ : Int64) (x : Int32) (v0 v2 : Value) : am_run d 105 9 [v0, .int x, v2] st σ τ = am_run d 105 10 [v0, .int x, v2] (.int x :: st) σ τ := rr_iload_n dX10_about_9 rfl
theorem r105_10 (d : Nat) (st : List Value) (σ : am_St) (τ : Int64) (x : Int32) (v0 v1 : Value) : am_run d 105 10 [v0, v1, .int x] st σ τ = am_run d 105 11 [v0, v1, .int x] (.int x :: st) σ τ := rr_iload_n dX10_about_10 rfl
theorem r105_11 (d : Nat) (ls st : List Value) (σ : am_St) (τ : Int64) (k : Nat) (a0 : Int32) (a1 : Int32) (hk : am_kc k = 10) (hc : am_cats st ≤ 8) : am_run (d + 1) 105 11 ls (.int a1 :: .int a0 :: .ref k :: st) σ τ = (am_call d 104 [.ref k, .int a0, .int a1] σ τ).bind (fun r => am_run (d + 1) 105 14 ls (r.1.toList ++ st) r.2.1 r.2.2) := rr_invv [.int a0, .int a1] dX10_about_11 (by decide +kernel) (by decide) rfl (Nat.le_of_ble_eq_true rfl) hk hc
theorem r105_14 (d : Nat) (ls st : List Value) (σ : am_St) (τ : Int64) : am_run d 105 14 ls st σ τ = am_run d 105 19 ls st σ τ := rr_goto 19 dX10_about_14 (by decide)
theorem r105_17 (d : Nat) (ls st : List Value) (σ : am_St) (τ : Int64) : am_run d 105 17 ls st σ τ = am_run d 105 19 ls (.int (-101) :: st) σ τ := rr_bipush (-101) dX10_about_17 (by decide)
theorem r105_19 (d : Nat) (ls : List Value) (σ : am_St) (τ : Int64) (x : Int32) : am_run d 105 19 ls [.int x] σ τ = some (some (.int x), σ, τ) := rr_iret dX10_about_19 rfl
theorem dX10_as_0 : decode (am_code 106) 0 = .ok (.aload_n 0, 1) := by decide +kernel
theorem dX10_as_1 : decode (am_code 106) 1 = .ok (.iload_n 1, 1) := by decide +kernel
theorem dX10_as_2 : decode (am_code 106) 2 = .ok (.invokevirtual 138, 3) := by decide +kernel
theorem dX10_as_5 : decode (am_code 106) 5 = .ok (.ifCond .ne 6, 3) := by decide +kernel
theorem dX10_as_8 : decode (am_code 106) 8 = .ok (.bipush (-101), 2) := by decide +kernel
theorem dX10_as_10 : decode (am_code 106) 10 = .ok (.ireturn, 1) := by decide +kernel
theorem dX10_as_11 : decode (am_code 106) 11 = .ok (.iload_n 2, 1) := by decide +kernel
theorem dX10_as_12 : decode (am_code 106) 12 = .ok (.i2l, 1) := by decide +kernel
theorem dX10_as_13 : decode (am_code 106) 13 = .ok (.lconst 0, 1) := by decide +kernel
theorem dX10_as_14 : decode (am_code 106) 14 = .ok (.ldc2_w 141, 3) := by decide +kernel
theorem dX10_as_17 : decode (am_code 106) 17 = .ok (.invokestatic 112, 3) := by decide +kernel
theorem dX10_as_20 : decode (am_code 106) 20 = .ok (.ifCond .ne 6, 3) := by decide +kernel
theorem dX10_as_23 : decode (am_code 106) 23 = .ok (.bipush (-102), 2) := by decide +kernel
theorem dX10_as_25 : decode (am_code 106) 25 = .ok (.ireturn, 1) := by decide +kernel
theorem dX10_as_26 : decode (am_code 106) 26 = .ok (.iload_n 2, 1) := by decide +kernel
theorem dX10_as_27 : decode (am_code 106) 27 = .ok (.ifCond .eq 28, 3) := by decide +kernel
theorem dX10_as_30 : decode (am_code 106) 30 = .ok (.iload_n 2, 1) := by decide +kernel
theorem dX10_as_31 : decode (am_code 106) 31 = .ok (.aload_n 0, 1) := by decide +kernel
theorem dX10_as_32 : decode (am_code 106) 32 = .ok (.getfield 19, 3) := by decide +kernel
theorem dX10_as_35 : decode (am_code 106) 35 = .ok (.iload_n 1, 1) := by decide +kernel
theorem dX10_as_36 : decode (am_code 106) 36 = .ok (.iaload, 1) := by decide +kernel
theorem dX10_as_37 : decode (am_code 106) 37 = .ok (.if_icmp .eq 18, 3) := by decide +kernel
theorem dX10_as_40 : decode (am_code 106) 40 = .ok (.iload_n 2, 1) := by decide +kernel
theorem dX10_as_41 : decode (am_code 106) 41 = .ok (.iconst 2, 1) := by decide +kernel
theorem dX10_as_42 : decode (am_code 106) 42 = .ok (.if_icmp .ne 17, 3) := by decide +kernel
theorem dX10_as_45 : decode (am_code 106) 45 = .ok (.aload_n 0, 1) := by decide +kernel
theorem dX10_as_46 : decode (am_code 106) 46 = .ok (.getfield 19, 3) := by decide +kernel
theorem dX10_as_49 : decode (am_code 106) 49 = .ok (.iload_n 1, 1) := by decide +kernel
theorem dX10_as_50 : decode (am_code 106) 50 = .ok (.iaload, 1) := by decide +kernel
theorem dX10_as_51 : decode (am_code 106) 51 = .ok (.iconst 4, 1) := by decide +kernel
theorem dX10_as_52 : decode (am_code 106) 52 = .ok (.if_icmp .ne 7, 3) := by decide +kernel
theorem dX10_as_55 : decode (am_code 106) 55 = .ok (.iconst 1, 1) := by decide +kernel
theorem dX10_as_56 : decode (am_code 106) 56 = .ok (.goto 4, 3) := by decide +kernel
theorem dX10_as_59 : decode (am_code 106) 59 = .ok (.iconst 0, 1) := by decide +kernel
theorem dX10_as_60 : decode (am_code 106) 60 = .ok (.istore_n 3, 1) := by decide +kernel
theorem dX10_as_61 : decode (am_code 106) 61 = .ok (.iload_n 3, 1) := by decide +kernel
theorem dX10_as_62 : decode (am_code 106) 62 = .ok (.ifCond .eq 7, 3) := by decide +kernel
theorem dX10_as_65 : decode (am_code 106) 65 = .ok (.iload_n 1, 1) := by decide +kernel
theorem dX10_as_66 : decode (am_code 106) 66 = .ok (.goto 4, 3) := by decide +kernel
theorem dX10_as_69 : decode (am_code 106) 69 = .ok (.iconst (-1), 1) := by decide +kernel
theorem dX10_as_70 : decode (am_code 106) 70 = .ok (.ireturn, 1) := by decide +kernel
theorem r106_0 (d : Nat) (st : List Value) (σ : am_St) (τ : Int64) (x : Nat) (v1 v2 v3 : Value) : am_run d 106 0 [.ref x, v1, v2, v3] st σ τ = am_run d 106 1 [.ref x, v1, v2, v3] (.ref x :: st) σ τ := rr_aload_n dX10_as_0 rfl
theorem r106_1 (d : Nat) (st : List Value) (σ : am_St) (τ : Int64) (x : Int32) (v0 v2 v3 : Value) : am_run d 106 1 [v0, .int x, v2, v3] st σ τ = am_run d 106 2 [v0, .int x, v2, v3] (.int x :: st) σ τ := rr_iload_n dX10_as_1 rfl
theorem r106_2 (d : Nat) (ls st : List Value) (σ : am_St) (τ : Int64) (k : Nat) (a0 : Int32) (hk : am_kc k = 10) (hc : am_cats st ≤ 8) : am_run (d + 1) 106 2 ls (.int a0 :: .ref k :: st) σ τ = (am_call d 91 [.ref k, .int a0] σ τ).bind (fun r => am_run (d + 1) 106 5 ls (r.1.toList ++ st) r.2.1 r.2.2) := rr_invv [.int a0] dX10_as_2 (by decide +kernel) (by decide) rfl (Nat.le_of_ble_eq_true rfl) hk hc
theorem r106_5 (d : Nat) (ls st : List Value) (σ : am_St) (τ : Int64) (x : Int32) : am_run d 106 5 ls (.int x :: st) σ τ = if x = 0 then am_run d 106 8 ls st σ τ else am_run d 106 11 ls st σ τ := (rr_if 11 dX10_as_5 (by decide)).trans am_seln
theorem r106_8 (d : Nat) (ls st : List Value) (σ : am_St) (τ : Int64) : am_run d 106 8 ls st σ τ = am_run d 106 10 ls (.int (-101) :: st) σ τ := rr_bipush (-101) dX10_as_8 (by decide)
theorem r106_10 (d : Nat) (ls : List Value) (σ : am_St) (τ : Int64) (x : Int32) : am_run d 106 10 ls [.int x] σ τ = some (some (.int x), σ, τ) := rr_iret dX10_as_10 rfl
theorem r106_11 (d : Nat) (st : List Value) (σ : am_St) (τ : Int64) (x : Int32) (v0 v1 v3 : Value) : am_run d 106 11 [v0, v1, .int x, v3] st σ τ = am_run d 106 12 [v0, v1, .int x, v3] (.int x :: st) σ τ := rr_iload_n dX10_as_11 rfl
theorem r106_12 (d : Nat) (ls st : List Value) (σ : am_St) (τ : Int64) (x : Int32) : am_run d 106 12 ls (.int x :: st) σ τ = am_run d 106 13 ls (.long x.toInt64 :: st) σ τ := rr_i2l dX10_as_12
theorem r106_13 (d : Nat) (ls st : List Value) (σ : am_St) (τ : Int64) : am_run d 106 13 ls st σ τ = am_run d 106 14 ls (.long 0 :: st) σ τ := rr_lconst 0 dX10_as_13 (by decide)
theorem r106_14 (d : Nat) (ls st : List Value) (σ : am_St) (τ : Int64) : am_run d 106 14 ls st σ τ = am_run d 106 17 ls (.long 4 :: st) σ τ := rr_ldc2 4 dX10_as_14 (by decide +kernel)
theorem r106_17 (d : Nat) (ls st : List Value) (σ : am_St) (τ : Int64) (a0 : Int64) (a1 : Int64) (a2 : Int64) (hc : am_cats st ≤ 8) : am_run (d + 1) 106 17 ls (.long a2 :: .long a1 :: .long a0 :: st) σ τ = (am_call d 82 [.long a0, .long a1, .long a2] σ τ).bind (fun r => am_run (d + 1) 106 20 ls (r.1.toList ++ st) r.2.1 r.2.2) := rr_invs [.long a0, .long a1, .long a2] dX10_as_17 (by decide +kernel) (by decide +kernel) (by decide) rfl (Nat.le_of_ble_eq_true rfl) hc
theorem r106_20 (d : Nat) (ls st : List Value) (σ : am_St) (τ : Int64) (x : Int32) : am_run d 106 20 ls (.int x :: st) σ τ = if x = 0 then am_run d 106 23 ls st σ τ else am_run d 106 26 ls st σ τ := (rr_if 26 dX10_as_20 (by decide)).trans am_seln
theorem r106_23 (d : Nat) (ls st : List Value) (σ : am_St) (τ : Int64) : am_run d 106 23 ls st σ τ = am_run d 106 25 ls (.int (-102) :: st) σ τ := rr_bipush (-102) dX10_as_23 (by decide)
theorem r106_25 (d : Nat) (ls : List Value) (σ : am_St) (τ : Int64) (x : Int32) : am_run d 106 25 ls [.int x] σ τ = some (some (.int x), σ, τ) := rr_iret dX10_as_25 rfl
theorem r106_26 (d : Nat) (st : List Value) (σ : am_St) (τ : Int64) (x : Int32) (v0 v1 v3 : Value) : am_run d 106 26 [v0, v1, .int x, v3] st σ τ = am_run d 106 27 [v0, v1, .int x, v3] (.int x :: st) σ τ := rr_iload_n dX10_as_26 rfl
theorem r106_27 (d : Nat) (ls st : List Value) (σ : am_St) (τ : Int64) (x : Int32) : am_run d 106 27 ls (.int x :: st) σ τ = if x = 0 then am_run d 106 55 ls st σ τ else am_run d 106 30 ls st σ τ := (rr_if 55 dX10_as_27 (by decide)).trans am_sel
theorem r106_30 (d : Nat) (st : List Value) (σ : am_St) (τ : Int64) (x : Int32) (v0 v1 v3 : Value) : am_run d 106 30 [v0, v1, .int x, v3] st σ τ = am_run d 106 31 [v0, v1, .int x, v3] (.int x :: st) σ τ := rr_iload_n dX10_as_30 rfl
theorem r106_31 (d : Nat) (st : List Value) (σ : am_St) (τ : Int64) (x : Nat) (v1 v2 v3 : Value) : am_run d 106 31 [.ref x, v1, v2, v3] st σ τ = am_run d 106 32 [.ref x, v1, v2, v3] (.ref x :: st) σ τ := rr_aload_n dX10_as_31 rfl
theorem r106_32 (d : Nat) (ls st : List Value) (σ : am_St) (τ : Int64) (k : Nat) : am_run d 106 32 ls (.ref k :: st) σ τ = am_gf k 10 8 σ τ (fun v => am_run d 106 35 ls (v :: st) σ τ) := rr_getf dX10_as_32 (by decide +kernel)
theorem r106_35 (d : Nat) (st : List Value) (σ : am_St) (τ : Int64) (x : Int32) (v0 v2 v3 : Value) : am_run d 106 35 [v0, .int x, v2, v3] st σ τ = am_run d 106 36 [v0, .int x, v2, v3] (.int x :: st) σ τ := rr_iload_n dX10_as_35 rfl
theorem r106_36 (d : Nat) (ls st : List Value) (σ : am_St) (τ : Int64) (i : Int32) (k : Nat) : am_run d 106 36 ls (.int i :: .ref k :: st) σ τ = am_ai false k i (fun j => am_run d 106 37 ls (.int (σ k j) :: st) σ τ) := rr_iald dX10_as_36
theorem r106_37 (d : Nat) (ls st : List Value) (σ : am_St) (τ : Int64) (x y : Int32) : am_run d 106 37 ls (.int y :: .int x :: st) σ τ = if x = y then am_run d 106 55 ls st σ τ else am_run d 106 40 ls st σ τ := (rr_icmp 55 dX10_as_37 (by decide)).trans am_sel
theorem r106_40 (d : Nat) (st : List Value) (σ : am_St) (τ : Int64) (x : Int32) (v0 v1 v3 : Value) : am_run d 106 40 [v0, v1, .int x, v3] st σ τ = am_run d 106 41 [v0, v1, .int x, v3] (.int x :: st) σ τ := rr_iload_n dX10_as_40 rfl
theorem r106_41 (d : Nat) (ls st : List Value) (σ : am_St) (τ : Int64) : am_run d 106 41 ls st σ τ = am_run d 106 42 ls (.int 2 :: st) σ τ := rr_iconst 2 dX10_as_41 (by decide)
theorem r106_42 (d : Nat) (ls st : List Value) (σ : am_St) (τ : Int64) (x y : Int32) : am_run d 106 42 ls (.int y :: .int x :: st) σ τ = if x = y then am_run d 106 45 ls st σ τ else am_run d 106 59 ls st σ τ := (rr_icmp 59 dX10_as_42 (by decide)).trans am_seln
theorem r106_45 (d : Nat) (st : List Value) (σ : am_St) (τ : Int64) (x : Nat) (v1 v2 v3 : Value) : am_run d 106 45 [.ref x, v1, v2, v3] st σ τ = am_run d 106 46 [.ref x, v1, v2, v3] (.ref x :: st) σ τ := rr_aload_n dX10_as_45 rfl
theorem r106_46 (d : Nat) (ls st : List Value) (σ : am_St) (τ : Int64) (k : Nat) : am_run d 106 46 ls (.ref k :: st) σ τ = am_gf k 10 8 σ τ (fun v => am_run d 106 49 ls (v :: st) σ τ) := rr_getf dX10_as_46 (by decide +kernel)
theorem r106_49 (d : Nat) (st : List Value) (σ : am_St) (τ : Int64) (x : Int32) (v0 v2 v3 : Value) : am_run d 106 49 [v0, .int x, v2, v3] st σ τ = am_run d 106 50 [v0, .int x, v2, v3] (.int x :: st) σ τ := rr_iload_n dX10_as_49 rfl
theorem r106_50 (d : Nat) (ls st : List Value) (σ : am_St) (τ : Int64) (i : Int32) (k : Nat) : am_run d 106 50 ls (.int i :: .ref k :: st) σ τ = am_ai false k i (fun j => am_run d 106 51 ls (.int (σ k j) :: st) σ τ) := rr_iald dX10_as_50
theorem r106_51 (d : Nat) (ls st : List Value) (σ : am_St) (τ : Int64) : am_run d 106 51 ls st σ τ = am_run d 106 52 ls (.int 4 :: st) σ τ := rr_iconst 4 dX10_as_51 (by decide)
theorem r106_52 (d : Nat) (ls st : List Value) (σ : am_St) (τ : Int64) (x y : Int32) : am_run d 106 52 ls (.int y :: .int x :: st) σ τ = if x = y then am_run d 106 55 ls st σ τ else am_run d 106 59 ls st σ τ := (rr_icmp 59 dX10_as_52 (by decide)).trans am_seln
theorem r106_55 (d : Nat) (ls st : List Value) (σ : am_St) (τ : Int64) : am_run d 106 55 ls st σ τ = am_run d 106 56 ls (.int 1 :: st) σ τ := rr_iconst 1 dX10_as_55 (by decide)
theorem r106_56 (d : Nat) (ls st : List Value) (σ : am_St) (τ : Int64) : am_run d 106 56 ls st σ τ = am_run d 106 60 ls st σ τ := rr_goto 60 dX10_as_56 (by decide)
theorem r106_59 (d : Nat) (ls st : List Value) (σ : am_St) (τ : Int64) : am_run d 106 59 ls st σ τ = am_run d 106 60 ls (.int 0 :: st) σ τ := rr_iconst 0 dX10_as_59 (by decide)
theorem r106_60 (d : Nat) (st : List Value) (σ : am_St) (τ : Int64) (x : Int32) (v0 v1 v2 v3 : Value) : am_run d 106 60 [v0, v1, v2, v3] (.int x :: st) σ τ = am_run d 106 61 [v0, v1, am_nl v2, .int x] st σ τ := rr_istore_n _ dX10_as_60 (by decide) (by first | rfl | (by_cases h : v2.category = 2 <;> simp [am_set1, am_nl, h]))
theorem r106_61 (d : Nat) (st : List Value) (σ : am_St) (τ : Int64) (x : Int32) (v0 v1 v2 : Value) : am_run d 106 61 [v0, v1, v2, .int x] st σ τ = am_run d 106 62 [v0, v1, v2, .int x] (.int x :: st) σ τ := rr_iload_n dX10_as_61 rfl
theorem r106_62 (d : Nat) (ls st : List Value) (σ : am_St) (τ : Int64) (x : Int32) : am_run d 106 62 ls (.int x :: st) σ τ = if x = 0 then am_run d 106 69 ls st σ τ else am_run d 106 65 ls st σ τ := (rr_if 69 dX10_as_62 (by decide)).trans am_sel
theorem r106_65 (d : Nat) (st : List Value) (σ : am_St) (τ : Int64) (x : Int32) (v0 v2 v3 : Value) : am_run d 106 65 [v0, .int x, v2, v3] st σ τ = am_run d 106 66 [v0, .int x, v2, v3] (.int x :: st) σ τ := rr_iload_n dX10_as_65 rfl
theorem r106_66 (d : Nat) (ls st : List Value) (σ : am_St) (τ : Int64) : am_run d 106 66 ls st σ τ = am_run d 106 70 ls st σ τ := rr_goto 70 dX10_as_66 (by decide)
theorem r106_69 (d : Nat) (ls st : List Value) (σ : am_St) (τ : Int64) : am_run d 106 69 ls st σ τ = am_run d 106 70 ls (.int (-1) :: st) σ τ := rr_iconst (-1) dX10_as_69 (by decide)
theorem r106_70 (d : Nat) (ls : List Value) (σ : am_St) (τ : Int64) (x : Int32) : am_run d 106 70 ls [.int x] σ τ = some (some (.int x), σ, τ) := rr_iret dX10_as_70 rfl
theorem dX10_call_0 : decode (am_code 107) 0 = .ok (.aload_n 0, 1) := by decide +kernel
theorem dX10_call_1 : decode (am_code 107) 1 = .ok (.iload_n 1, 1) := by decide +kernel
theorem dX10_call_2 : decode (am_code 107) 2 = .ok (.invokevirtual 138, 3) := by decide +kernel
theorem dX10_call_5 : decode (am_code 107) 5 = .ok (.ifCond .ne 6, 3) := by decide +kernel
theorem dX10_call_8 : decode (am_code 107) 8 = .ok (.bipush (-101), 2) := by decide +kernel
theorem dX10_call_10 : decode (am_code 107) 10 = .ok (.ireturn, 1) := by decide +kernel
theorem dX10_call_11 : decode (am_code 107) 11 = .ok (.aload_n 0, 1) := by decide +kernel
theorem dX10_call_12 : decode (am_code 107) 12 = .ok (.getfield 19, 3) := by decide +kernel
theorem dX10_call_15 : decode (am_code 107) 15 = .ok (.iload_n 1, 1) := by decide +kernel
theorem dX10_call_16 : decode (am_code 107) 16 = .ok (.iaload, 1) := by decide +kernel
theorem dX10_call_17 : decode (am_code 107) 17 = .ok (.invokestatic 132, 3) := by decide +kernel
theorem dX10_call_20 : decode (am_code 107) 20 = .ok (.ifCond .ne 6, 3) := by decide +kernel
theorem dX10_call_23 : decode (am_code 107) 23 = .ok (.bipush (-103), 2) := by decide +kernel
theorem dX10_call_25 : decode (am_code 107) 25 = .ok (.ireturn, 1) := by decide +kernel
theorem dX10_call_26 : decode (am_code 107) 26 = .ok (.iload_n 2, 1) := by decide +kernel
theorem dX10_call_27 : decode (am_code 107) 27 = .ok (.i2l, 1) := by decide +kernel
theorem dX10_call_28 : decode (am_code 107) 28 = .ok (.lconst 0, 1) := by decide +kernel
theorem dX10_call_29 : decode (am_code 107) 29 = .ok (.ldc2_w 147, 3) := by decide +kernel
theorem dX10_call_32 : decode (am_code 107) 32 = .ok (.invokestatic 112, 3) := by decide +kernel
theorem dX10_call_35 : decode (am_code 107) 35 = .ok (.ifCond .ne 6, 3) := by decide +kernel
theorem dX10_call_38 : decode (am_code 107) 38 = .ok (.bipush (-102), 2) := by decide +kernel
theorem dX10_call_40 : decode (am_code 107) 40 = .ok (.ireturn, 1) := by decide +kernel
theorem dX10_call_41 : decode (am_code 107) 41 = .ok (.aload_n 0, 1) := by decide +kernel
theorem dX10_call_42 : decode (am_code 107) 42 = .ok (.getfield 31, 3) := by decide +kernel
theorem dX10_call_45 : decode (am_code 107) 45 = .ok (.iload_n 1, 1) := by decide +kernel
theorem dX10_call_46 : decode (am_code 107) 46 = .ok (.iaload, 1) := by decide +kernel
theorem dX10_call_47 : decode (am_code 107) 47 = .ok (.istore_n 3, 1) := by decide +kernel
theorem dX10_call_48 : decode (am_code 107) 48 = .ok (.aload_n 0, 1) := by decide +kernel
theorem dX10_call_49 : decode (am_code 107) 49 = .ok (.getfield 31, 3) := by decide +kernel
theorem dX10_call_52 : decode (am_code 107) 52 = .ok (.iload_n 1, 1) := by decide +kernel
theorem dX10_call_53 : decode (am_code 107) 53 = .ok (.iload_n 2, 1) := by decide +kernel
theorem dX10_call_54 : decode (am_code 107) 54 = .ok (.iastore, 1) := by decide +kernel
theorem dX10_call_55 : decode (am_code 107) 55 = .ok (.iload_n 3, 1) := by decide +kernel
theorem dX10_call_56 : decode (am_code 107) 56 = .ok (.ireturn, 1) := by decide +kernel
theorem r107_0 (d : Nat) (st : List Value) (σ : am_St) (τ : Int64) (x : Nat) (v1 v2 v3 : Value) : am_run d 107 0 [.ref x, v1, v2, v3] st σ τ = am_run d 107 1 [.ref x, v1, v2, v3] (.ref x :: st) σ τ := rr_aload_n dX10_call_0 rfl
theorem r107_1 (d : Nat) (st : List Value) (σ : am_St) (τ : Int64) (x : Int32) (v0 v2 v3 : Value) : am_run d 107 1 [v0, .int x, v2, v3] st σ τ = am_run d 107 2 [v0, .int x, v2, v3] (.int x :: st) σ τ := rr_iload_n dX10_call_1 rfl
theorem r107_2 (d : Nat) (ls st : List Value) (σ : am_St) (τ : Int64) (k : Nat) (a0 : Int32) (hk : am_kc k = 10) (hc : am_cats st ≤ 8) : am_run (d + 1) 107 2 ls (.int a0 :: .ref k :: st) σ τ = (am_call d 91 [.ref k, .int a0] σ τ).bind (fun r => am_run (d + 1) 107 5 ls (r.1.toList ++ st) r.2.1 r.2.2) := rr_invv [.int a0] dX10_call_2 (by decide +kernel) (by decide) rfl (Nat.le_of_ble_eq_true rfl) hk hc
theorem r107_5 (d : Nat) (ls st : List Value) (σ : am_St) (τ : Int64) (x : Int32) : am_run d 107 5 ls (.int x :: st) σ τ = if x = 0 then am_run d 107 8 ls st σ τ else am_run d 107 11 ls st σ τ := (rr_if 11 dX10_call_5 (by decide)).trans am_seln
theorem r107_8 (d : Nat) (ls st : List Value) (σ : am_St) (τ : Int64) : am_run d 107 8 ls st σ τ = am_run d 107 10 ls (.int (-101) :: st) σ τ := rr_bipush (-101) dX10_call_8 (by decide)
theorem r107_10 (d : Nat) (ls : List Value) (σ : am_St) (τ : Int64) (x : Int32) : am_run d 107 10 ls [.int x] σ τ = some (some (.int x), σ, τ) := rr_iret dX10_call_10 rfl
theorem r107_11 (d : Nat) (st : List Value) (σ : am_St) (τ : Int64) (x : Nat) (v1 v2 v3 : Value) : am_run d 107 11 [.ref x, v1, v2, v3] st σ τ = am_run d 107 12 [.ref x, v1, v2, v3] (.ref x :: st) σ τ := rr_aload_n dX10_call_11 rfl
theorem r107_12 (d : Nat) (ls st : List Value) (σ : am_St) (τ : Int64) (k : Nat) : am_run d 107 12 ls (.ref k :: st) σ τ = am_gf k 10 8 σ τ (fun v => am_run d 107 15 ls (v :: st) σ τ) := rr_getf dX10_call_12 (by decide +kernel)
theorem r107_15 (d : Nat) (st : List Value) (σ : am_St) (τ : Int64) (x : Int32) (v0 v2 v3 : Value) : am_run d 107 15 [v0, .int x, v2, v3] st σ τ = am_run d 107 16 [v0, .int x, v2, v3] (.int x :: st) σ τ := rr_iload_n dX10_call_15 rfl
theorem r107_16 (d : Nat) (ls st : List Value) (σ : am_St) (τ : Int64) (i : Int32) (k : Nat) : am_run d 107 16 ls (.int i :: .ref k :: st) σ τ = am_ai false k i (fun j => am_run d 107 17 ls (.int (σ k j) :: st) σ τ) := rr_iald dX10_call_16
theorem r107_17 (d : Nat) (ls st : List Value) (σ : am_St) (τ : Int64) (a0 : Int32) (hc : am_cats st ≤ 8) : am_run (d + 1) 107 17 ls (.int a0 :: st) σ τ = (am_call d 92 [.int a0] σ τ).bind (fun r => am_run (d + 1) 107 20 ls (r.1.toList ++ st) r.2.1 r.2.2) := rr_invs [.int a0] dX10_call_17 (by decide +kernel) (by decide +kernel) (by decide) rfl (Nat.le_of_ble_eq_true rfl) hc
theorem r107_20 (d : Nat) (ls st : List Value) (σ : am_St) (τ : Int64) (x : Int32) : am_run d 107 20 ls (.int x :: st) σ τ = if x = 0 then am_run d 107 23 ls st σ τ else am_run d 107 26 ls st σ τ := (rr_if 26 dX10_call_20 (by decide)).trans am_seln
theorem r107_23 (d : Nat) (ls st : List Value) (σ : am_St) (τ : Int64) : am_run d 107 23 ls st σ τ = am_run d 107 25 ls (.int (-103) :: st) σ τ := rr_bipush (-103) dX10_call_23 (by decide)
theorem r107_25 (d : Nat) (ls : List Value) (σ : am_St) (τ : Int64) (x : Int32) : am_run d 107 25 ls [.int x] σ τ = some (some (.int x), σ, τ) := rr_iret dX10_call_25 rfl
theorem r107_26 (d : Nat) (st : List Value) (σ : am_St) (τ : Int64) (x : Int32) (v0 v1 v3 : Value) : am_run d 107 26 [v0, v1, .int x, v3] st σ τ = am_run d 107 27 [v0, v1, .int x, v3] (.int x :: st) σ τ := rr_iload_n dX10_call_26 rfl
theorem r107_27 (d : Nat) (ls st : List Value) (σ : am_St) (τ : Int64) (x : Int32) : am_run d 107 27 ls (.int x :: st) σ τ = am_run d 107 28 ls (.long x.toInt64 :: st) σ τ := rr_i2l dX10_call_27
theorem r107_28 (d : Nat) (ls st : List Value) (σ : am_St) (τ : Int64) : am_run d 107 28 ls st σ τ = am_run d 107 29 ls (.long 0 :: st) σ τ := rr_lconst 0 dX10_call_28 (by decide)
theorem r107_29 (d : Nat) (ls st : List Value) (σ : am_St) (τ : Int64) : am_run d 107 29 ls st σ τ = am_run d 107 32 ls (.long 5 :: st) σ τ := rr_ldc2 5 dX10_call_29 (by decide +kernel)
theorem r107_32 (d : Nat) (ls st : List Value) (σ : am_St) (τ : Int64) (a0 : Int64) (a1 : Int64) (a2 : Int64) (hc : am_cats st ≤ 8) : am_run (d + 1) 107 32 ls (.long a2 :: .long a1 :: .long a0 :: st) σ τ = (am_call d 82 [.long a0, .long a1, .long a2] σ τ).bind (fun r => am_run (d + 1) 107 35 ls (r.1.toList ++ st) r.2.1 r.2.2) := rr_invs [.long a0, .long a1, .long a2] dX10_call_32 (by decide +kernel) (by decide +kernel) (by decide) rfl (Nat.le_of_ble_eq_true rfl) hc
theorem r107_35 (d : Nat) (ls st : List Value) (σ : am_St) (τ : Int64) (x : Int32) : am_run d 107 35 ls (.int x :: st) σ τ = if x = 0 then am_run d 107 38 ls st σ τ else am_run d 107 41 ls st σ τ := (rr_if 41 dX10_call_35 (by decide)).trans am_seln
theorem r107_38 (d : Nat) (ls st : List Value) (σ : am_St) (τ : Int64) : am_run d 107 38 ls st σ τ = am_run d 107 40 ls (.int (-102) :: st) σ τ := rr_bipush (-102) dX10_call_38 (by decide)
theorem r107_40 (d : Nat) (ls : List Value) (σ : am_St) (τ : Int64) (x : Int32) : am_run d 107 40 ls [.int x] σ τ = some (some (.int x), σ, τ) := rr_iret dX10_call_40 rfl
theorem r107_41 (d : Nat) (st : List Value) (σ : am_St) (τ : Int64) (x : Nat) (v1 v2 v3 : Value) : am_run d 107 41 [.ref x, v1, v2, v3] st σ τ = am_run d 107 42 [.ref x, v1, v2, v3] (.ref x :: st) σ τ := rr_aload_n dX10_call_41 rfl
theorem r107_42 (d : Nat) (ls st : List Value) (σ : am_St) (τ : Int64) (k : Nat) : am_run d 107 42 ls (.ref k :: st) σ τ = am_gf k 10 12 σ τ (fun v => am_run d 107 45 ls (v :: st) σ τ) := rr_getf dX10_call_42 (by decide +kernel)
theorem r107_45 (d : Nat) (st : List Value) (σ : am_St) (τ : Int64) (x : Int32) (v0 v2 v3 : Value) : am_run d 107 45 [v0, .int x, v2, v3] st σ τ = am_run d 107 46 [v0, .int x, v2, v3] (.int x :: st) σ τ := rr_iload_n dX10_call_45 rfl
theorem r107_46 (d : Nat) (ls st : List Value) (σ : am_St) (τ : Int64) (i : Int32) (k : Nat) : am_run d 107 46 ls (.int i :: .ref k :: st) σ τ = am_ai false k i (fun j => am_run d 107 47 ls (.int (σ k j) :: st) σ τ) := rr_iald dX10_call_46
theorem r107_47 (d : Nat) (st : List Value) (σ : am_St) (τ : Int64) (x : Int32) (v0 v1 v2 v3 : Value) : am_run d 107 47 [v0, v1, v2, v3] (.int x :: st) σ τ = am_run d 107 48 [v0, v1, am_nl v2, .int x] st σ τ := rr_istore_n _ dX10_call_47 (by decide) (by first | rfl | (by_cases h : v2.category = 2 <;> simp [am_set1, am_nl, h]))
theorem r107_48 (d : Nat) (st : List Value) (σ : am_St) (τ : Int64) (x : Nat) (v1 v2 v3 : Value) : am_run d 107 48 [.ref x, v1, v2, v3] st σ τ = am_run d 107 49 [.ref x, v1, v2, v3] (.ref x :: st) σ τ := rr_aload_n dX10_call_48 rfl
theorem r107_49 (d : Nat) (ls st : List Value) (σ : am_St) (τ : Int64) (k : Nat) : am_run d 107 49 ls (.ref k :: st) σ τ = am_gf k 10 12 σ τ (fun v => am_run d 107 52 ls (v :: st) σ τ) := rr_getf dX10_call_49 (by decide +kernel)
theorem r107_52 (d : Nat) (st : List Value) (σ : am_St) (τ : Int64) (x : Int32) (v0 v2 v3 : Value) : am_run d 107 52 [v0, .int x, v2, v3] st σ τ = am_run d 107 53 [v0, .int x, v2, v3] (.int x :: st) σ τ := rr_iload_n dX10_call_52 rfl
theorem r107_53 (d : Nat) (st : List Value) (σ : am_St) (τ : Int64) (x : Int32) (v0 v1 v3 : Value) : am_run d 107 53 [v0, v1, .int x, v3] st σ τ = am_run d 107 54 [v0, v1, .int x, v3] (.int x :: st) σ τ := rr_iload_n dX10_call_53 rfl
theorem r107_54 (d : Nat) (ls st : List Value) (σ : am_St) (τ : Int64) (x i : Int32) (k : Nat) : am_run d 107 54 ls (.int x :: .int i :: .ref k :: st) σ τ = am_ai false k i (fun j => am_run d 107 55 ls st (am_up σ k j x) τ) := rr_iast dX10_call_54
theorem r107_55 (d : Nat) (st : List Value) (σ : am_St) (τ : Int64) (x : Int32) (v0 v1 v2 : Value) : am_run d 107 55 [v0, v1, v2, .int x] st σ τ = am_run d 107 56 [v0, v1, v2, .int x] (.int x :: st) σ τ := rr_iload_n dX10_call_55 rfl
theorem r107_56 (d : Nat) (ls : List Value) (σ : am_St) (τ : Int64) (x : Int32) : am_run d 107 56 ls [.int x] σ τ = some (some (.int x), σ, τ) := rr_iret dX10_call_56 rfl
theorem dX10_write_0 : decode (am_code 108) 0 = .ok (.aload_n 0, 1) := by decide +kernel
theorem dX10_write_1 : decode (am_code 108) 1 = .ok (.iload_n 1, 1) := by decide +kernel
theorem dX10_write_2 : decode (am_code 108) 2 = .ok (.invokevirtual 138, 3) := by decide +kernel
theorem dX10_write_5 : decode (am_code 108) 5 = .ok (.ifCond .ne 6, 3) := by decide +kernel
theorem dX10_write_8 : decode (am_code 108) 8 = .ok (.bipush (-101), 2) := by decide +kernel
theorem dX10_write_10 : decode (am_code 108) 10 = .ok (.ireturn, 1) := by decide +kernel
theorem dX10_write_11 : decode (am_code 108) 11 = .ok (.iload_n 2, 1) := by decide +kernel
theorem dX10_write_12 : decode (am_code 108) 12 = .ok (.i2l, 1) := by decide +kernel
theorem dX10_write_13 : decode (am_code 108) 13 = .ok (.ldc2_w 177, 3) := by decide +kernel
theorem dX10_write_16 : decode (am_code 108) 16 = .ok (.ldc2_w 147, 3) := by decide +kernel
theorem dX10_write_19 : decode (am_code 108) 19 = .ok (.invokestatic 112, 3) := by decide +kernel
theorem dX10_write_22 : decode (am_code 108) 22 = .ok (.ifCond .ne 6, 3) := by decide +kernel
theorem dX10_write_25 : decode (am_code 108) 25 = .ok (.bipush (-102), 2) := by decide +kernel
theorem dX10_write_27 : decode (am_code 108) 27 = .ok (.ireturn, 1) := by decide +kernel
theorem dX10_write_28 : decode (am_code 108) 28 = .ok (.aload_n 0, 1) := by decide +kernel
theorem dX10_write_29 : decode (am_code 108) 29 = .ok (.getfield 34, 3) := by decide +kernel
theorem dX10_write_32 : decode (am_code 108) 32 = .ok (.iload_n 1, 1) := by decide +kernel
theorem dX10_write_33 : decode (am_code 108) 33 = .ok (.iaload, 1) := by decide +kernel
theorem dX10_write_34 : decode (am_code 108) 34 = .ok (.istore_n 3, 1) := by decide +kernel
theorem dX10_write_35 : decode (am_code 108) 35 = .ok (.aload_n 0, 1) := by decide +kernel
theorem dX10_write_36 : decode (am_code 108) 36 = .ok (.getfield 34, 3) := by decide +kernel
theorem dX10_write_39 : decode (am_code 108) 39 = .ok (.iload_n 1, 1) := by decide +kernel
theorem dX10_write_40 : decode (am_code 108) 40 = .ok (.iload_n 2, 1) := by decide +kernel
theorem dX10_write_41 : decode (am_code 108) 41 = .ok (.iastore, 1) := by decide +kernel
theorem dX10_write_42 : decode (am_code 108) 42 = .ok (.iload_n 3, 1) := by decide +kernel
theorem dX10_write_43 : decode (am_code 108) 43 = .ok (.ireturn, 1) := by decide +kernel
theorem r108_0 (d : Nat) (st : List Value) (σ : am_St) (τ : Int64) (x : Nat) (v1 v2 v3 : Value) : am_run d 108 0 [.ref x, v1, v2, v3] st σ τ = am_run d 108 1 [.ref x, v1, v2, v3] (.ref x :: st) σ τ := rr_aload_n dX10_write_0 rfl
theorem r108_1 (d : Nat) (st : List Value) (σ : am_St) (τ : Int64) (x : Int32) (v0 v2 v3 : Value) : am_run d 108 1 [v0, .int x, v2, v3] st σ τ = am_run d 108 2 [v0, .int x, v2, v3] (.int x :: st) σ τ := rr_iload_n dX10_write_1 rfl
theorem r108_2 (d : Nat) (ls st : List Value) (σ : am_St) (τ : Int64) (k : Nat) (a0 : Int32) (hk : am_kc k = 10) (hc : am_cats st ≤ 8) : am_run (d + 1) 108 2 ls (.int a0 :: .ref k :: st) σ τ = (am_call d 91 [.ref k, .int a0] σ τ).bind (fun r => am_run (d + 1) 108 5 ls (r.1.toList ++ st) r.2.1 r.2.2) := rr_invv [.int a0] dX10_write_2 (by decide +kernel) (by decide) rfl (Nat.le_of_ble_eq_true rfl) hk hc
theorem r108_5 (d : Nat) (ls st : List Value) (σ : am_St) (τ : Int64) (x : Int32) : am_run d 108 5 ls (.int x :: st) σ τ = if x = 0 then am_run d 108 8 ls st σ τ else am_run d 108 11 ls st σ τ := (rr_if 11 dX10_write_5 (by decide)).trans am_seln
theorem r108_8 (d : Nat) (ls st : List Value) (σ : am_St) (τ : Int64) : am_run d 108 8 ls st σ τ = am_run d 108 10 ls (.int (-101) :: st) σ τ := rr_bipush (-101) dX10_write_8 (by decide)
theorem r108_10 (d : Nat) (ls : List Value) (σ : am_St) (τ : Int64) (x : Int32) : am_run d 108 10 ls [.int x] σ τ = some (some (.int x), σ, τ) := rr_iret dX10_write_10 rfl
theorem r108_11 (d : Nat) (st : List Value) (σ : am_St) (τ : Int64) (x : Int32) (v0 v1 v3 : Value) : am_run d 108 11 [v0, v1, .int x, v3] st σ τ = am_run d 108 12 [v0, v1, .int x, v3] (.int x :: st) σ τ := rr_iload_n dX10_write_11 rfl
theorem r108_12 (d : Nat) (ls st : List Value) (σ : am_St) (τ : Int64) (x : Int32) : am_run d 108 12 ls (.int x :: st) σ τ = am_run d 108 13 ls (.long x.toInt64 :: st) σ τ := rr_i2l dX10_write_12
theorem r108_13 (d : Nat) (ls st : List Value) (σ : am_St) (τ : Int64) : am_run d 108 13 ls st σ τ = am_run d 108 16 ls (.long (-1) :: st) σ τ := rr_ldc2 (-1) dX10_write_13 (by decide +kernel)
theorem r108_16 (d : Nat) (ls st : List Value) (σ : am_St) (τ : Int64) : am_run d 108 16 ls st σ τ = am_run d 108 19 ls (.long 5 :: st) σ τ := rr_ldc2 5 dX10_write_16 (by decide +kernel)
theorem r108_19 (d : Nat) (ls st : List Value) (σ : am_St) (τ : Int64) (a0 : Int64) (a1 : Int64) (a2 : Int64) (hc : am_cats st ≤ 8) : am_run (d + 1) 108 19 ls (.long a2 :: .long a1 :: .long a0 :: st) σ τ = (am_call d 82 [.long a0, .long a1, .long a2] σ τ).bind (fun r => am_run (d + 1) 108 22 ls (r.1.toList ++ st) r.2.1 r.2.2) := rr_invs [.long a0, .long a1, .long a2] dX10_write_19 (by decide +kernel) (by decide +kernel) (by decide) rfl (Nat.le_of_ble_eq_true rfl) hc
theorem r108_22 (d : Nat) (ls st : List Value) (σ : am_St) (τ : Int64) (x : Int32) : am_run d 108 22 ls (.int x :: st) σ τ = if x = 0 then am_run d 108 25 ls st σ τ else am_run d 108 28 ls st σ τ := (rr_if 28 dX10_write_22 (by decide)).trans am_seln
theorem r108_25 (d : Nat) (ls st : List Value) (σ : am_St) (τ : Int64) : am_run d 108 25 ls st σ τ = am_run d 108 27 ls (.int (-102) :: st) σ τ := rr_bipush (-102) dX10_write_25 (by decide)
theorem r108_27 (d : Nat) (ls : List Value) (σ : am_St) (τ : Int64) (x : Int32) : am_run d 108 27 ls [.int x] σ τ = some (some (.int x), σ, τ) := rr_iret dX10_write_27 rfl
theorem r108_28 (d : Nat) (st : List Value) (σ : am_St) (τ : Int64) (x : Nat) (v1 v2 v3 : Value) : am_run d 108 28 [.ref x, v1, v2, v3] st σ τ = am_run d 108 29 [.ref x, v1, v2, v3] (.ref x :: st) σ τ := rr_aload_n dX10_write_28 rfl
theorem r108_29 (d : Nat) (ls st : List Value) (σ : am_St) (τ : Int64) (k : Nat) : am_run d 108 29 ls (.ref k :: st) σ τ = am_gf k 10 13 σ τ (fun v => am_run d 108 32 ls (v :: st) σ τ) := rr_getf dX10_write_29 (by decide +kernel)
theorem r108_32 (d : Nat) (st : List Value) (σ : am_St) (τ : Int64) (x : Int32) (v0 v2 v3 : Value) : am_run d 108 32 [v0, .int x, v2, v3] st σ τ = am_run d 108 33 [v0, .int x, v2, v3] (.int x :: st) σ τ := rr_iload_n dX10_write_32 rfl
theorem r108_33 (d : Nat) (ls st : List Value) (σ : am_St) (τ : Int64) (i : Int32) (k : Nat) : am_run d 108 33 ls (.int i :: .ref k :: st) σ τ = am_ai false k i (fun j => am_run d 108 34 ls (.int (σ k j) :: st) σ τ) := rr_iald dX10_write_33
theorem r108_34 (d : Nat) (st : List Value) (σ : am_St) (τ : Int64) (x : Int32) (v0 v1 v2 v3 : Value) : am_run d 108 34 [v0, v1, v2, v3] (.int x :: st) σ τ = am_run d 108 35 [v0, v1, am_nl v2, .int x] st σ τ := rr_istore_n _ dX10_write_34 (by decide) (by first | rfl | (by_cases h : v2.category = 2 <;> simp [am_set1, am_nl, h]))
theorem r108_35 (d : Nat) (st : List Value) (σ : am_St) (τ : Int64) (x : Nat) (v1 v2 v3 : Value) : am_run d 108 35 [.ref x, v1, v2, v3] st σ τ = am_run d 108 36 [.ref x, v1, v2, v3] (.ref x :: st) σ τ := rr_aload_n dX10_write_35 rfl
theorem r108_36 (d : Nat) (ls st : List Value) (σ : am_St) (τ : Int64) (k : Nat) : am_run d 108 36 ls (.ref k :: st) σ τ = am_gf k 10 13 σ τ (fun v => am_run d 108 39 ls (v :: st) σ τ) := rr_getf dX10_write_36 (by decide +kernel)
theorem r108_39 (d : Nat) (st : List Value) (σ : am_St) (τ : Int64) (x : Int32) (v0 v2 v3 : Value) : am_run d 108 39 [v0, .int x, v2, v3] st σ τ = am_run d 108 40 [v0, .int x, v2, v3] (.int x :: st) σ τ := rr_iload_n dX10_write_39 rfl
theorem r108_40 (d : Nat) (st : List Value) (σ : am_St) (τ : Int64) (x : Int32) (v0 v1 v3 : Value) : am_run d 108 40 [v0, v1, .int x, v3] st σ τ = am_run d 108 41 [v0, v1, .int x, v3] (.int x :: st) σ τ := rr_iload_n dX10_write_40 rfl
theorem r108_41 (d : Nat) (ls st : List Value) (σ : am_St) (τ : Int64) (x i : Int32) (k : Nat) : am_run d 108 41 ls (.int x :: .int i :: .ref k :: st) σ τ = am_ai false k i (fun j => am_run d 108 42 ls st (am_up σ k j x) τ) := rr_iast dX10_write_41
theorem r108_42 (d : Nat) (st : List Value) (σ : am_St) (τ : Int64) (x : Int32) (v0 v1 v2 : Value) : am_run d 108 42 [v0, v1, v2, .int x] st σ τ = am_run d 108 43 [v0, v1, v2, .int x] (.int x :: st) σ τ := rr_iload_n dX10_write_42 rfl
theorem r108_43 (d : Nat) (ls : List Value) (σ : am_St) (τ : Int64) (x : Int32) : am_run d 108 43 ls [.int x] σ τ = some (some (.int x), σ, τ) := rr_iret dX10_write_43 rfl
theorem dX10_aliveMany_0 : decode (am_code 109) 0 = .ok (.iconst 0, 1) := by decide +kernel
theorem dX10_aliveMany_1 : decode (am_code 109) 1 = .ok (.istore_n 1, 1) := by decide +kernel
theorem dX10_aliveMany_2 : decode (am_code 109) 2 = .ok (.iconst 0, 1) := by decide +kernel
theorem dX10_aliveMany_3 : decode (am_code 109) 3 = .ok (.istore_n 2, 1) := by decide +kernel
theorem dX10_aliveMany_4 : decode (am_code 109) 4 = .ok (.iload_n 2, 1) := by decide +kernel
theorem dX10_aliveMany_5 : decode (am_code 109) 5 = .ok (.aload_n 0, 1) := by decide +kernel
theorem dX10_aliveMany_6 : decode (am_code 109) 6 = .ok (.getfield 129, 3) := by decide +kernel
theorem dX10_aliveMany_9 : decode (am_code 109) 9 = .ok (.if_icmp .ge 18, 3) := by decide +kernel
theorem dX10_aliveMany_12 : decode (am_code 109) 12 = .ok (.iload_n 1, 1) := by decide +kernel
theorem dX10_aliveMany_13 : decode (am_code 109) 13 = .ok (.aload_n 0, 1) := by decide +kernel
theorem dX10_aliveMany_14 : decode (am_code 109) 14 = .ok (.getfield 37, 3) := by decide +kernel
theorem dX10_aliveMany_17 : decode (am_code 109) 17 = .ok (.iload_n 2, 1) := by decide +kernel
theorem dX10_aliveMany_18 : decode (am_code 109) 18 = .ok (.iaload, 1) := by decide +kernel
theorem dX10_aliveMany_19 : decode (am_code 109) 19 = .ok (.iadd, 1) := by decide +kernel
theorem dX10_aliveMany_20 : decode (am_code 109) 20 = .ok (.istore_n 1, 1) := by decide +kernel
theorem dX10_aliveMany_21 : decode (am_code 109) 21 = .ok (.iinc 2 1, 3) := by decide +kernel
theorem dX10_aliveMany_24 : decode (am_code 109) 24 = .ok (.goto (-20), 3) := by decide +kernel
theorem dX10_aliveMany_27 : decode (am_code 109) 27 = .ok (.iload_n 1, 1) := by decide +kernel
theorem dX10_aliveMany_28 : decode (am_code 109) 28 = .ok (.ireturn, 1) := by decide +kernel
theorem r109_0 (d : Nat) (ls st : List Value) (σ : am_St) (τ : Int64) : am_run d 109 0 ls st σ τ = am_run d 109 1 ls (.int 0 :: st) σ τ := rr_iconst 0 dX10_aliveMany_0 (by decide)
theorem r109_1 (d : Nat) (st : List Value) (σ : am_St) (τ : Int64) (x : Int32) (v0 v1 v2 : Value) : am_run d 109 1 [v0, v1, v2] (.int x :: st) σ τ = am_run d 109 2 [am_nl v0, .int x, v2] st σ τ := rr_istore_n _ dX10_aliveMany_1 (by decide) (by first | rfl | (by_cases h : v0.category = 2 <;> simp [am_set1, am_nl, h]))
theorem r109_2 (d : Nat) (ls st : List Value) (σ : am_St) (τ : Int64) : am_run d 109 2 ls st σ τ = am_run d 109 3 ls (.int 0 :: st) σ τ := rr_iconst 0 dX10_aliveMany_2 (by decide)
theorem r109_3 (d : Nat) (st : List Value) (σ : am_St) (τ : Int64) (x : Int32) (v0 v1 v2 : Value) : am_run d 109 3 [v0, v1, v2] (.int x :: st) σ τ = am_run d 109 4 [v0, am_nl v1, .int x] st σ τ := rr_istore_n _ dX10_aliveMany_3 (by decide) (by first | rfl | (by_cases h : v1.category = 2 <;> simp [am_set1, am_nl, h]))
theorem r109_4 (d : Nat) (st : List Value) (σ : am_St) (τ : Int64) (x : Int32) (v0 v1 : Value) : am_run d 109 4 [v0, v1, .int x] st σ τ = am_run d 109 5 [v0, v1, .int x] (.int x :: st) σ τ := rr_iload_n dX10_aliveMany_4 rfl
theorem r109_5 (d : Nat) (st : List Value) (σ : am_St) (τ : Int64) (x : Nat) (v1 v2 : Value) : am_run d 109 5 [.ref x, v1, v2] st σ τ = am_run d 109 6 [.ref x, v1, v2] (.ref x :: st) σ τ := rr_aload_n dX10_aliveMany_5 rfl
theorem r109_6 (d : Nat) (ls st : List Value) (σ : am_St) (τ : Int64) (k : Nat) : am_run d 109 6 ls (.ref k :: st) σ τ = am_gf k 10 6 σ τ (fun v => am_run d 109 9 ls (v :: st) σ τ) := rr_getf dX10_aliveMany_6 (by decide +kernel)
theorem r109_9 (d : Nat) (ls st : List Value) (σ : am_St) (τ : Int64) (x y : Int32) : am_run d 109 9 ls (.int y :: .int x :: st) σ τ = if y ≤ x then am_run d 109 27 ls st σ τ else am_run d 109 12 ls st σ τ := (rr_icmp 27 dX10_aliveMany_9 (by decide)).trans am_sel
theorem r109_12 (d : Nat) (st : List Value) (σ : am_St) (τ : Int64) (x : Int32) (v0 v2 : Value) : am_run d 109 12 [v0, .int x, v2] st σ τ = am_run d 109 13 [v0, .int x, v2] (.int x :: st) σ τ := rr_iload_n dX10_aliveMany_12 rfl
theorem r109_13 (d : Nat) (st : List Value) (σ : am_St) (τ : Int64) (x : Nat) (v1 v2 : Value) : am_run d 109 13 [.ref x, v1, v2] st σ τ = am_run d 109 14 [.ref x, v1, v2] (.ref x :: st) σ τ := rr_aload_n dX10_aliveMany_13 rfl
theorem r109_14 (d : Nat) (ls st : List Value) (σ : am_St) (τ : Int64) (k : Nat) : am_run d 109 14 ls (.ref k :: st) σ τ = am_gf k 10 14 σ τ (fun v => am_run d 109 17 ls (v :: st) σ τ) := rr_getf dX10_aliveMany_14 (by decide +kernel)
theorem r109_17 (d : Nat) (st : List Value) (σ : am_St) (τ : Int64) (x : Int32) (v0 v1 : Value) : am_run d 109 17 [v0, v1, .int x] st σ τ = am_run d 109 18 [v0, v1, .int x] (.int x :: st) σ τ := rr_iload_n dX10_aliveMany_17 rfl
theorem r109_18 (d : Nat) (ls st : List Value) (σ : am_St) (τ : Int64) (i : Int32) (k : Nat) : am_run d 109 18 ls (.int i :: .ref k :: st) σ τ = am_ai false k i (fun j => am_run d 109 19 ls (.int (σ k j) :: st) σ τ) := rr_iald dX10_aliveMany_18
theorem r109_19 (d : Nat) (ls st : List Value) (σ : am_St) (τ : Int64) (x y : Int32) : am_run d 109 19 ls (.int y :: .int x :: st) σ τ = am_run d 109 20 ls (.int (x + y) :: st) σ τ := rr_iadd dX10_aliveMany_19
theorem r109_20 (d : Nat) (st : List Value) (σ : am_St) (τ : Int64) (x : Int32) (v0 v1 v2 : Value) : am_run d 109 20 [v0, v1, v2] (.int x :: st) σ τ = am_run d 109 21 [am_nl v0, .int x, v2] st σ τ := rr_istore_n _ dX10_aliveMany_20 (by decide) (by first | rfl | (by_cases h : v0.category = 2 <;> simp [am_set1, am_nl, h]))
theorem r109_21 (d : Nat) (st : List Value) (σ : am_St) (τ : Int64) (x : Int32) (v0 v1 : Value) : am_run d 109 21 [v0, v1, .int x] st σ τ = am_run d 109 24 [v0, am_nl v1, .int (x + 1)] st σ τ := rr_iinc 1 _ dX10_aliveMany_21 rfl (by decide) (by decide) (by first | rfl | (by_cases h : v1.category = 2 <;> simp [am_set1, am_nl, h]))
theorem r109_24 (d : Nat) (ls st : List Value) (σ : am_St) (τ : Int64) : am_run d 109 24 ls st σ τ = am_run d 109 4 ls st σ τ := rr_goto 4 dX10_aliveMany_24 (by decide)
theorem r109_27 (d : Nat) (st : List Value) (σ : am_St) (τ : Int64) (x : Int32) (v0 v2 : Value) : am_run d 109 27 [v0, .int x, v2] st σ τ = am_run d 109 28 [v0, .int x, v2] (.int x :: st) σ τ := rr_iload_n dX10_aliveMany_27 rfl
theorem r109_28 (d : Nat) (ls : List Value) (σ : am_St) (τ : Int64) (x : Int32) : am_run d 109 28 ls [.int x] σ τ = some (some (.int x), σ, τ) := rr_iret dX10_aliveMany_28 rfl
theorem dX10_dies_0 : decode (am_code 110) 0 = .ok (.aload_n 0, 1) := by decide +kernel
theorem dX10_dies_1 : decode (am_code 110) 1 = .ok (.iload_n 1, 1) := by decide +kernel
theorem dX10_dies_2 : decode (am_code 110) 2 = .ok (.invokevirtual 138, 3) := by decide +kernel
theorem dX10_dies_5 : decode (am_code 110) 5 = .ok (.ifCond .ne 6, 3) := by decide +kernel
theorem dX10_dies_8 : decode (am_code 110) 8 = .ok (.bipush (-101), 2) := by decide +kernel
theorem dX10_dies_10 : decode (am_code 110) 10 = .ok (.ireturn, 1) := by decide +kernel
theorem dX10_dies_11 : decode (am_code 110) 11 = .ok (.aload_n 0, 1) := by decide +kernel
theorem dX10_dies_12 : decode (am_code 110) 12 = .ok (.getfield 37, 3) := by decide +kernel
theorem dX10_dies_15 : decode (am_code 110) 15 = .ok (.iload_n 1, 1) := by decide +kernel
theorem dX10_dies_16 : decode (am_code 110) 16 = .ok (.iaload, 1) := by decide +kernel
theorem dX10_dies_17 : decode (am_code 110) 17 = .ok (.ifCond .ne 6, 3) := by decide +kernel
theorem dX10_dies_20 : decode (am_code 110) 20 = .ok (.bipush (-103), 2) := by decide +kernel
theorem dX10_dies_22 : decode (am_code 110) 22 = .ok (.ireturn, 1) := by decide +kernel
theorem dX10_dies_23 : decode (am_code 110) 23 = .ok (.aload_n 0, 1) := by decide +kernel
theorem dX10_dies_24 : decode (am_code 110) 24 = .ok (.getfield 37, 3) := by decide +kernel
theorem dX10_dies_27 : decode (am_code 110) 27 = .ok (.iload_n 1, 1) := by decide +kernel
theorem dX10_dies_28 : decode (am_code 110) 28 = .ok (.iconst 0, 1) := by decide +kernel
theorem dX10_dies_29 : decode (am_code 110) 29 = .ok (.iastore, 1) := by decide +kernel
theorem dX10_dies_30 : decode (am_code 110) 30 = .ok (.aload_n 0, 1) := by decide +kernel
theorem dX10_dies_31 : decode (am_code 110) 31 = .ok (.invokevirtual 179, 3) := by decide +kernel
theorem dX10_dies_34 : decode (am_code 110) 34 = .ok (.ireturn, 1) := by decide +kernel
theorem r110_0 (d : Nat) (st : List Value) (σ : am_St) (τ : Int64) (x : Nat) (v1 : Value) : am_run d 110 0 [.ref x, v1] st σ τ = am_run d 110 1 [.ref x, v1] (.ref x :: st) σ τ := rr_aload_n dX10_dies_0 rfl
theorem r110_1 (d : Nat) (st : List Value) (σ : am_St) (τ : Int64) (x : Int32) (v0 : Value) : am_run d 110 1 [v0, .int x] st σ τ = am_run d 110 2 [v0, .int x] (.int x :: st) σ τ := rr_iload_n dX10_dies_1 rfl
theorem r110_2 (d : Nat) (ls st : List Value) (σ : am_St) (τ : Int64) (k : Nat) (a0 : Int32) (hk : am_kc k = 10) (hc : am_cats st ≤ 8) : am_run (d + 1) 110 2 ls (.int a0 :: .ref k :: st) σ τ = (am_call d 91 [.ref k, .int a0] σ τ).bind (fun r => am_run (d + 1) 110 5 ls (r.1.toList ++ st) r.2.1 r.2.2) := rr_invv [.int a0] dX10_dies_2 (by decide +kernel) (by decide) rfl (Nat.le_of_ble_eq_true rfl) hk hc
theorem r110_5 (d : Nat) (ls st : List Value) (σ : am_St) (τ : Int64) (x : Int32) : am_run d 110 5 ls (.int x :: st) σ τ = if x = 0 then am_run d 110 8 ls st σ τ else am_run d 110 11 ls st σ τ := (rr_if 11 dX10_dies_5 (by decide)).trans am_seln
theorem r110_8 (d : Nat) (ls st : List Value) (σ : am_St) (τ : Int64) : am_run d 110 8 ls st σ τ = am_run d 110 10 ls (.int (-101) :: st) σ τ := rr_bipush (-101) dX10_dies_8 (by decide)
theorem r110_10 (d : Nat) (ls : List Value) (σ : am_St) (τ : Int64) (x : Int32) : am_run d 110 10 ls [.int x] σ τ = some (some (.int x), σ, τ) := rr_iret dX10_dies_10 rfl
theorem r110_11 (d : Nat) (st : List Value) (σ : am_St) (τ : Int64) (x : Nat) (v1 : Value) : am_run d 110 11 [.ref x, v1] st σ τ = am_run d 110 12 [.ref x, v1] (.ref x :: st) σ τ := rr_aload_n dX10_dies_11 rfl
theorem r110_12 (d : Nat) (ls st : List Value) (σ : am_St) (τ : Int64) (k : Nat) : am_run d 110 12 ls (.ref k :: st) σ τ = am_gf k 10 14 σ τ (fun v => am_run d 110 15 ls (v :: st) σ τ) := rr_getf dX10_dies_12 (by decide +kernel)
theorem r110_15 (d : Nat) (st : List Value) (σ : am_St) (τ : Int64) (x : Int32) (v0 : Value) : am_run d 110 15 [v0, .int x] st σ τ = am_run d 110 16 [v0, .int x] (.int x :: st) σ τ := rr_iload_n dX10_dies_15 rfl
theorem r110_16 (d : Nat) (ls st : List Value) (σ : am_St) (τ : Int64) (i : Int32) (k : Nat) : am_run d 110 16 ls (.int i :: .ref k :: st) σ τ = am_ai false k i (fun j => am_run d 110 17 ls (.int (σ k j) :: st) σ τ) := rr_iald dX10_dies_16
theorem r110_17 (d : Nat) (ls st : List Value) (σ : am_St) (τ : Int64) (x : Int32) : am_run d 110 17 ls (.int x :: st) σ τ = if x = 0 then am_run d 110 20 ls st σ τ else am_run d 110 23 ls st σ τ := (rr_if 23 dX10_dies_17 (by decide)).trans am_seln
theorem r110_20 (d : Nat) (ls st : List Value) (σ : am_St) (τ : Int64) : am_run d 110 20 ls st σ τ = am_run d 110 22 ls (.int (-103) :: st) σ τ := rr_bipush (-103) dX10_dies_20 (by decide)
theorem r110_22 (d : Nat) (ls : List Value) (σ : am_St) (τ : Int64) (x : Int32) : am_run d 110 22 ls [.int x] σ τ = some (some (.int x), σ, τ) := rr_iret dX10_dies_22 rfl
theorem r110_23 (d : Nat) (st : List Value) (σ : am_St) (τ : Int64) (x : Nat) (v1 : Value) : am_run d 110 23 [.ref x, v1] st σ τ = am_run d 110 24 [.ref x, v1] (.ref x :: st) σ τ := rr_aload_n dX10_dies_23 rfl
theorem r110_24 (d : Nat) (ls st : List Value) (σ : am_St) (τ : Int64) (k : Nat) : am_run d 110 24 ls (.ref k :: st) σ τ = am_gf k 10 14 σ τ (fun v => am_run d 110 27 ls (v :: st) σ τ) := rr_getf dX10_dies_24 (by decide +kernel)
theorem r110_27 (d : Nat) (st : List Value) (σ : am_St) (τ : Int64) (x : Int32) (v0 : Value) : am_run d 110 27 [v0, .int x] st σ τ = am_run d 110 28 [v0, .int x] (.int x :: st) σ τ := rr_iload_n dX10_dies_27 rfl
theorem r110_28 (d : Nat) (ls st : List Value) (σ : am_St) (τ : Int64) : am_run d 110 28 ls st σ τ = am_run d 110 29 ls (.int 0 :: st) σ τ := rr_iconst 0 dX10_dies_28 (by decide)
theorem r110_29 (d : Nat) (ls st : List Value) (σ : am_St) (τ : Int64) (x i : Int32) (k : Nat) : am_run d 110 29 ls (.int x :: .int i :: .ref k :: st) σ τ = am_ai false k i (fun j => am_run d 110 30 ls st (am_up σ k j x) τ) := rr_iast dX10_dies_29
theorem r110_30 (d : Nat) (st : List Value) (σ : am_St) (τ : Int64) (x : Nat) (v1 : Value) : am_run d 110 30 [.ref x, v1] st σ τ = am_run d 110 31 [.ref x, v1] (.ref x :: st) σ τ := rr_aload_n dX10_dies_30 rfl
theorem r110_31 (d : Nat) (ls st : List Value) (σ : am_St) (τ : Int64) (k : Nat)  (hk : am_kc k = 10) (hc : am_cats st ≤ 8) : am_run (d + 1) 110 31 ls (.ref k :: st) σ τ = (am_call d 109 [.ref k] σ τ).bind (fun r => am_run (d + 1) 110 34 ls (r.1.toList ++ st) r.2.1 r.2.2) := rr_invv [] dX10_dies_31 (by decide +kernel) (by decide) rfl (Nat.le_of_ble_eq_true rfl) hk hc
theorem r110_34 (d : Nat) (ls : List Value) (σ : am_St) (τ : Int64) (x : Int32) : am_run d 110 34 ls [.int x] σ τ = some (some (.int x), σ, τ) := rr_iret dX10_dies_34 rfl
theorem dX10_tellWrong_0 : decode (am_code 111) 0 = .ok (.aload_n 0, 1) := by decide +kernel
theorem dX10_tellWrong_1 : decode (am_code 111) 1 = .ok (.invokevirtual 168, 3) := by decide +kernel
theorem dX10_tellWrong_4 : decode (am_code 111) 4 = .ok (.iload_n 1, 1) := by decide +kernel
theorem dX10_tellWrong_5 : decode (am_code 111) 5 = .ok (.ifCond .ne 8, 3) := by decide +kernel
theorem dX10_tellWrong_8 : decode (am_code 111) 8 = .ok (.aload_n 0, 1) := by decide +kernel
theorem dX10_tellWrong_9 : decode (am_code 111) 9 = .ok (.invokevirtual 182, 3) := by decide +kernel
theorem dX10_tellWrong_12 : decode (am_code 111) 12 = .ok (.ireturn, 1) := by decide +kernel
theorem dX10_tellWrong_13 : decode (am_code 111) 13 = .ok (.iconst 0, 1) := by decide +kernel
theorem dX10_tellWrong_14 : decode (am_code 111) 14 = .ok (.istore_n 2, 1) := by decide +kernel
theorem dX10_tellWrong_15 : decode (am_code 111) 15 = .ok (.iload_n 2, 1) := by decide +kernel
theorem dX10_tellWrong_16 : decode (am_code 111) 16 = .ok (.aload_n 0, 1) := by decide +kernel
theorem dX10_tellWrong_17 : decode (am_code 111) 17 = .ok (.getfield 129, 3) := by decide +kernel
theorem dX10_tellWrong_20 : decode (am_code 111) 20 = .ok (.if_icmp .ge 36, 3) := by decide +kernel
theorem dX10_tellWrong_23 : decode (am_code 111) 23 = .ok (.aload_n 0, 1) := by decide +kernel
theorem dX10_tellWrong_24 : decode (am_code 111) 24 = .ok (.getfield 34, 3) := by decide +kernel
theorem dX10_tellWrong_27 : decode (am_code 111) 27 = .ok (.iload_n 2, 1) := by decide +kernel
theorem dX10_tellWrong_28 : decode (am_code 111) 28 = .ok (.iaload, 1) := by decide +kernel
theorem dX10_tellWrong_29 : decode (am_code 111) 29 = .ok (.iconst (-1), 1) := by decide +kernel
theorem dX10_tellWrong_30 : decode (am_code 111) 30 = .ok (.if_icmp .eq 20, 3) := by decide +kernel
theorem dX10_tellWrong_33 : decode (am_code 111) 33 = .ok (.aload_n 0, 1) := by decide +kernel
theorem dX10_tellWrong_34 : decode (am_code 111) 34 = .ok (.getfield 34, 3) := by decide +kernel
theorem dX10_tellWrong_37 : decode (am_code 111) 37 = .ok (.iload_n 2, 1) := by decide +kernel
theorem dX10_tellWrong_38 : decode (am_code 111) 38 = .ok (.iaload, 1) := by decide +kernel
theorem dX10_tellWrong_39 : decode (am_code 111) 39 = .ok (.aload_n 0, 1) := by decide +kernel
theorem dX10_tellWrong_40 : decode (am_code 111) 40 = .ok (.getfield 43, 3) := by decide +kernel
theorem dX10_tellWrong_43 : decode (am_code 111) 43 = .ok (.iload_n 2, 1) := by decide +kernel
theorem dX10_tellWrong_44 : decode (am_code 111) 44 = .ok (.iaload, 1) := by decide +kernel
theorem dX10_tellWrong_45 : decode (am_code 111) 45 = .ok (.if_icmp .eq 5, 3) := by decide +kernel
theorem dX10_tellWrong_48 : decode (am_code 111) 48 = .ok (.iload_n 2, 1) := by decide +kernel
theorem dX10_tellWrong_49 : decode (am_code 111) 49 = .ok (.ireturn, 1) := by decide +kernel
theorem dX10_tellWrong_50 : decode (am_code 111) 50 = .ok (.iinc 2 1, 3) := by decide +kernel
theorem dX10_tellWrong_53 : decode (am_code 111) 53 = .ok (.goto (-38), 3) := by decide +kernel
theorem dX10_tellWrong_56 : decode (am_code 111) 56 = .ok (.iconst (-1), 1) := by decide +kernel
theorem dX10_tellWrong_57 : decode (am_code 111) 57 = .ok (.ireturn, 1) := by decide +kernel
theorem r111_0 (d : Nat) (st : List Value) (σ : am_St) (τ : Int64) (x : Nat) (v1 v2 : Value) : am_run d 111 0 [.ref x, v1, v2] st σ τ = am_run d 111 1 [.ref x, v1, v2] (.ref x :: st) σ τ := rr_aload_n dX10_tellWrong_0 rfl
theorem r111_1 (d : Nat) (ls st : List Value) (σ : am_St) (τ : Int64) (k : Nat)  (hk : am_kc k = 10) (hc : am_cats st ≤ 8) : am_run (d + 1) 111 1 ls (.ref k :: st) σ τ = (am_call d 101 [.ref k] σ τ).bind (fun r => am_run (d + 1) 111 4 ls (r.1.toList ++ st) r.2.1 r.2.2) := rr_invv [] dX10_tellWrong_1 (by decide +kernel) (by decide) rfl (Nat.le_of_ble_eq_true rfl) hk hc
theorem r111_4 (d : Nat) (st : List Value) (σ : am_St) (τ : Int64) (x : Int32) (v0 v2 : Value) : am_run d 111 4 [v0, .int x, v2] st σ τ = am_run d 111 5 [v0, .int x, v2] (.int x :: st) σ τ := rr_iload_n dX10_tellWrong_4 rfl
theorem r111_5 (d : Nat) (ls st : List Value) (σ : am_St) (τ : Int64) (x : Int32) : am_run d 111 5 ls (.int x :: st) σ τ = if x = 0 then am_run d 111 8 ls st σ τ else am_run d 111 13 ls st σ τ := (rr_if 13 dX10_tellWrong_5 (by decide)).trans am_seln
theorem r111_8 (d : Nat) (st : List Value) (σ : am_St) (τ : Int64) (x : Nat) (v1 v2 : Value) : am_run d 111 8 [.ref x, v1, v2] st σ τ = am_run d 111 9 [.ref x, v1, v2] (.ref x :: st) σ τ := rr_aload_n dX10_tellWrong_8 rfl
theorem r111_9 (d : Nat) (ls st : List Value) (σ : am_St) (τ : Int64) (k : Nat)  (hk : am_kc k = 10) (hc : am_cats st ≤ 8) : am_run (d + 1) 111 9 ls (.ref k :: st) σ τ = (am_call d 102 [.ref k] σ τ).bind (fun r => am_run (d + 1) 111 12 ls (r.1.toList ++ st) r.2.1 r.2.2) := rr_invv [] dX10_tellWrong_9 (by decide +kernel) (by decide) rfl (Nat.le_of_ble_eq_true rfl) hk hc
theorem r111_12 (d : Nat) (ls : List Value) (σ : am_St) (τ : Int64) (x : Int32) : am_run d 111 12 ls [.int x] σ τ = some (some (.int x), σ, τ) := rr_iret dX10_tellWrong_12 rfl
theorem r111_13 (d : Nat) (ls st : List Value) (σ : am_St) (τ : Int64) : am_run d 111 13 ls st σ τ = am_run d 111 14 ls (.int 0 :: st) σ τ := rr_iconst 0 dX10_tellWrong_13 (by decide)
theorem r111_14 (d : Nat) (st : List Value) (σ : am_St) (τ : Int64) (x : Int32) (v0 v1 v2 : Value) : am_run d 111 14 [v0, v1, v2] (.int x :: st) σ τ = am_run d 111 15 [v0, am_nl v1, .int x] st σ τ := rr_istore_n _ dX10_tellWrong_14 (by decide) (by first | rfl | (by_cases h : v1.category = 2 <;> simp [am_set1, am_nl, h]))
theorem r111_15 (d : Nat) (st : List Value) (σ : am_St) (τ : Int64) (x : Int32) (v0 v1 : Value) : am_run d 111 15 [v0, v1, .int x] st σ τ = am_run d 111 16 [v0, v1, .int x] (.int x :: st) σ τ := rr_iload_n dX10_tellWrong_15 rfl
theorem r111_16 (d : Nat) (st : List Value) (σ : am_St) (τ : Int64) (x : Nat) (v1 v2 : Value) : am_run d 111 16 [.ref x, v1, v2] st σ τ = am_run d 111 17 [.ref x, v1, v2] (.ref x :: st) σ τ := rr_aload_n dX10_tellWrong_16 rfl
theorem r111_17 (d : Nat) (ls st : List Value) (σ : am_St) (τ : Int64) (k : Nat) : am_run d 111 17 ls (.ref k :: st) σ τ = am_gf k 10 6 σ τ (fun v => am_run d 111 20 ls (v :: st) σ τ) := rr_getf dX10_tellWrong_17 (by decide +kernel)
theorem r111_20 (d : Nat) (ls st : List Value) (σ : am_St) (τ : Int64) (x y : Int32) : am_run d 111 20 ls (.int y :: .int x :: st) σ τ = if y ≤ x then am_run d 111 56 ls st σ τ else am_run d 111 23 ls st σ τ := (rr_icmp 56 dX10_tellWrong_20 (by decide)).trans am_sel
theorem r111_23 (d : Nat) (st : List Value) (σ : am_St) (τ : Int64) (x : Nat) (v1 v2 : Value) : am_run d 111 23 [.ref x, v1, v2] st σ τ = am_run d 111 24 [.ref x, v1, v2] (.ref x :: st) σ τ := rr_aload_n dX10_tellWrong_23 rfl
theorem r111_24 (d : Nat) (ls st : List Value) (σ : am_St) (τ : Int64) (k : Nat) : am_run d 111 24 ls (.ref k :: st) σ τ = am_gf k 10 13 σ τ (fun v => am_run d 111 27 ls (v :: st) σ τ) := rr_getf dX10_tellWrong_24 (by decide +kernel)
theorem r111_27 (d : Nat) (st : List Value) (σ : am_St) (τ : Int64) (x : Int32) (v0 v1 : Value) : am_run d 111 27 [v0, v1, .int x] st σ τ = am_run d 111 28 [v0, v1, .int x] (.int x :: st) σ τ := rr_iload_n dX10_tellWrong_27 rfl
theorem r111_28 (d : Nat) (ls st : List Value) (σ : am_St) (τ : Int64) (i : Int32) (k : Nat) : am_run d 111 28 ls (.int i :: .ref k :: st) σ τ = am_ai false k i (fun j => am_run d 111 29 ls (.int (σ k j) :: st) σ τ) := rr_iald dX10_tellWrong_28
theorem r111_29 (d : Nat) (ls st : List Value) (σ : am_St) (τ : Int64) : am_run d 111 29 ls st σ τ = am_run d 111 30 ls (.int (-1) :: st) σ τ := rr_iconst (-1) dX10_tellWrong_29 (by decide)
theorem r111_30 (d : Nat) (ls st : List Value) (σ : am_St) (τ : Int64) (x y : Int32) : am_run d 111 30 ls (.int y :: .int x :: st) σ τ = if x = y then am_run d 111 50 ls st σ τ else am_run d 111 33 ls st σ τ := (rr_icmp 50 dX10_tellWrong_30 (by decide)).trans am_sel
theorem r111_33 (d : Nat) (st : List Value) (σ : am_St) (τ : Int64) (x : Nat) (v1 v2 : Value) : am_run d 111 33 [.ref x, v1, v2] st σ τ = am_run d 111 34 [.ref x, v1, v2] (.ref x :: st) σ τ := rr_aload_n dX10_tellWrong_33 rfl
theorem r111_34 (d : Nat) (ls st : List Value) (σ : am_St) (τ : Int64) (k : Nat) : am_run d 111 34 ls (.ref k :: st) σ τ = am_gf k 10 13 σ τ (fun v => am_run d 111 37 ls (v :: st) σ τ) := rr_getf dX10_tellWrong_34 (by decide +kernel)
theorem r111_37 (d : Nat) (st : List Value) (σ : am_St) (τ : Int64) (x : Int32) (v0 v1 : Value) : am_run d 111 37 [v0, v1, .int x] st σ τ = am_run d 111 38 [v0, v1, .int x] (.int x :: st) σ τ := rr_iload_n dX10_tellWrong_37 rfl
theorem r111_38 (d : Nat) (ls st : List Value) (σ : am_St) (τ : Int64) (i : Int32) (k : Nat) : am_run d 111 38 ls (.int i :: .ref k :: st) σ τ = am_ai false k i (fun j => am_run d 111 39 ls (.int (σ k j) :: st) σ τ) := rr_iald dX10_tellWrong_38
theorem r111_39 (d : Nat) (st : List Value) (σ : am_St) (τ : Int64) (x : Nat) (v1 v2 : Value) : am_run d 111 39 [.ref x, v1, v2] st σ τ = am_run d 111 40 [.ref x, v1, v2] (.ref x :: st) σ τ := rr_aload_n dX10_tellWrong_39 rfl
theorem r111_40 (d : Nat) (ls st : List Value) (σ : am_St) (τ : Int64) (k : Nat) : am_run d 111 40 ls (.ref k :: st) σ τ = am_gf k 10 16 σ τ (fun v => am_run d 111 43 ls (v :: st) σ τ) := rr_getf dX10_tellWrong_40 (by decide +kernel)
theorem r111_43 (d : Nat) (st : List Value) (σ : am_St) (τ : Int64) (x : Int32) (v0 v1 : Value) : am_run d 111 43 [v0, v1, .int x] st σ τ = am_run d 111 44 [v0, v1, .int x] (.int x :: st) σ τ := rr_iload_n dX10_tellWrong_43 rfl
theorem r111_44 (d : Nat) (ls st : List Value) (σ : am_St) (τ : Int64) (i : Int32) (k : Nat) : am_run d 111 44 ls (.int i :: .ref k :: st) σ τ = am_ai false k i (fun j => am_run d 111 45 ls (.int (σ k j) :: st) σ τ) := rr_iald dX10_tellWrong_44
theorem r111_45 (d : Nat) (ls st : List Value) (σ : am_St) (τ : Int64) (x y : Int32) : am_run d 111 45 ls (.int y :: .int x :: st) σ τ = if x = y then am_run d 111 50 ls st σ τ else am_run d 111 48 ls st σ τ := (rr_icmp 50 dX10_tellWrong_45 (by decide)).trans am_sel
theorem r111_48 (d : Nat) (st : List Value) (σ : am_St) (τ : Int64) (x : Int32) (v0 v1 : Value) : am_run d 111 48 [v0, v1, .int x] st σ τ = am_run d 111 49 [v0, v1, .int x] (.int x :: st) σ τ := rr_iload_n dX10_tellWrong_48 rfl
theorem r111_49 (d : Nat) (ls : List Value) (σ : am_St) (τ : Int64) (x : Int32) : am_run d 111 49 ls [.int x] σ τ = some (some (.int x), σ, τ) := rr_iret dX10_tellWrong_49 rfl
theorem r111_50 (d : Nat) (st : List Value) (σ : am_St) (τ : Int64) (x : Int32) (v0 v1 : Value) : am_run d 111 50 [v0, v1, .int x] st σ τ = am_run d 111 53 [v0, am_nl v1, .int (x + 1)] st σ τ := rr_iinc 1 _ dX10_tellWrong_50 rfl (by decide) (by decide) (by first | rfl | (by_cases h : v1.category = 2 <;> simp [am_set1, am_nl, h]))
theorem r111_53 (d : Nat) (ls st : List Value) (σ : am_St) (τ : Int64) : am_run d 111 53 ls st σ τ = am_run d 111 15 ls st σ τ := rr_goto 15 dX10_tellWrong_53 (by decide)
theorem r111_56 (d : Nat) (ls st : List Value) (σ : am_St) (τ : Int64) : am_run d 111 56 ls st σ τ = am_run d 111 57 ls (.int (-1) :: st) σ τ := rr_iconst (-1) dX10_tellWrong_56 (by decide)
theorem r111_57 (d : Nat) (ls : List Value) (σ : am_St) (τ : Int64) (x : Int32) : am_run d 111 57 ls [.int x] σ τ = some (some (.int x), σ, τ) := rr_iret dX10_tellWrong_57 rfl
