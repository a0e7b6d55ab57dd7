theorem am_ai_of {z : Bool} {k n j : Nat} {f : Nat → Option am_Rs} (hs : am_sh k = some (.inl (z, n))) (hj : j < n) (hn : n < 2 ^ 31) : am_ai z k (nI j) f = f j := by
  unfold am_ai
  rw [hs]
  dsimp only
  rw [nI_clamp (by omega), if_pos]
  refine ⟨rfl, fun q => ?_⟩
  rcases q with q | q
  · exact nI_pos (by omega) q
  · omega
theorem am_kc_0 : am_kc 0 = 9 := rfl
theorem am_gf_0_0 (σ : am_St) (τ : Int64) (f : Value → Option am_Rs) : am_gf 0 9 0 σ τ f = f (.ref 1) := rfl
theorem am_gf_0_1 (σ : am_St) (τ : Int64) (f : Value → Option am_Rs) : am_gf 0 9 1 σ τ f = f (.ref 3) := rfl
theorem am_gf_0_2 (σ : am_St) (τ : Int64) (f : Value → Option am_Rs) : am_gf 0 9 2 σ τ f = f (.ref 4) := rfl
theorem am_gf_0_3 (σ : am_St) (τ : Int64) (f : Value → Option am_Rs) : am_gf 0 9 3 σ τ f = f (.ref 15) := rfl
theorem am_gf_0_4 (σ : am_St) (τ : Int64) (f : Value → Option am_Rs) : am_gf 0 9 4 σ τ f = f (.ref 21) := rfl
theorem am_gf_0_5 (σ : am_St) (τ : Int64) (f : Value → Option am_Rs) : am_gf 0 9 5 σ τ f = f (.ref 25) := rfl
theorem am_gf_0_6 (σ : am_St) (τ : Int64) (f : Value → Option am_Rs) : am_gf 0 9 6 σ τ f = f (.ref 31) := rfl
theorem am_gf_0_7 (σ : am_St) (τ : Int64) (f : Value → Option am_Rs) : am_gf 0 9 7 σ τ f = f (.ref 34) := rfl
theorem am_gf_0_8 (σ : am_St) (τ : Int64) (f : Value → Option am_Rs) : am_gf 0 9 8 σ τ f = f (.ref 38) := rfl
theorem am_gf_0_9 (σ : am_St) (τ : Int64) (f : Value → Option am_Rs) : am_gf 0 9 9 σ τ f = f (.int (σ 0 9)) := rfl
theorem am_pf_0_9 (x : Int32) (σ : am_St) (f : am_St → Option am_Rs) : am_pf 0 9 9 x σ f = f (am_up σ 0 9 x) := rfl
theorem am_gf_0_10 (σ : am_St) (τ : Int64) (f : Value → Option am_Rs) : am_gf 0 9 10 σ τ f = f (.int (σ 0 10)) := rfl
theorem am_pf_0_10 (x : Int32) (σ : am_St) (f : am_St → Option am_Rs) : am_pf 0 9 10 x σ f = f (am_up σ 0 10 x) := rfl
theorem am_kc_1 : am_kc 1 = 8 := rfl
theorem am_gf_1_0 (σ : am_St) (τ : Int64) (f : Value → Option am_Rs) : am_gf 1 8 0 σ τ f = f (.ref 2) := rfl
theorem am_gf_1_1 (σ : am_St) (τ : Int64) (f : Value → Option am_Rs) : am_gf 1 8 1 σ τ f = f (.int (σ 1 1)) := rfl
theorem am_pf_1_1 (x : Int32) (σ : am_St) (f : am_St → Option am_Rs) : am_pf 1 8 1 x σ f = f (am_up σ 1 1 x) := rfl
theorem am_ai_2 (j : Nat) (f : Nat → Option am_Rs) (hj : j < 16) : am_ai false 2 (nI j) f = f j := am_ai_of rfl hj (by omega)
theorem am_kc_3 : am_kc 3 = 4 := rfl
theorem am_gf_3_0 (σ : am_St) (τ : Int64) (f : Value → Option am_Rs) : am_gf 3 4 0 σ τ f = f (.int (σ 3 0)) := rfl
theorem am_pf_3_0 (x : Int32) (σ : am_St) (f : am_St → Option am_Rs) : am_pf 3 4 0 x σ f = f (am_up σ 3 0 x) := rfl
theorem am_gf_3_1 (σ : am_St) (τ : Int64) (f : Value → Option am_Rs) : am_gf 3 4 1 σ τ f = f (.int (σ 3 1)) := rfl
theorem am_pf_3_1 (x : Int32) (σ : am_St) (f : am_St → Option am_Rs) : am_pf 3 4 1 x σ f = f (am_up σ 3 1 x) := rfl
theorem am_gf_3_2 (σ : am_St) (τ : Int64) (f : Value → Option am_Rs) : am_gf 3 4 2 σ τ f = f (.int (σ 3 2)) := rfl
theorem am_pf_3_2 (x : Int32) (σ : am_St) (f : am_St → Option am_Rs) : am_pf 3 4 2 x σ f = f (am_up σ 3 2 x) := rfl
theorem am_gf_3_3 (σ : am_St) (τ : Int64) (f : Value → Option am_Rs) : am_gf 3 4 3 σ τ f = f (.int (σ 3 3)) := rfl
theorem am_pf_3_3 (x : Int32) (σ : am_St) (f : am_St → Option am_Rs) : am_pf 3 4 3 x σ f = f (am_up σ 3 3 x) := rfl
theorem am_kc_4 : am_kc 4 = 1 := rfl
theorem am_gf_4_0 (σ : am_St) (τ : Int64) (f : Value → Option am_Rs) : am_gf 4 1 0 σ τ f = f (.int (σ 4 0)) := rfl
theorem am_pf_4_0 (x : Int32) (σ : am_St) (f : am_St → Option am_Rs) : am_pf 4 1 0 x σ f = f (am_up σ 4 0 x) := rfl
theorem am_gf_4_1 (σ : am_St) (τ : Int64) (f : Value → Option am_Rs) : am_gf 4 1 1 σ τ f = f (.ref 5) := rfl
theorem am_gf_4_2 (σ : am_St) (τ : Int64) (f : Value → Option am_Rs) : am_gf 4 1 2 σ τ f = f (.ref 6) := rfl
theorem am_gf_4_3 (σ : am_St) (τ : Int64) (f : Value → Option am_Rs) : am_gf 4 1 3 σ τ f = f (.ref 7) := rfl
theorem am_gf_4_4 (σ : am_St) (τ : Int64) (f : Value → Option am_Rs) : am_gf 4 1 4 σ τ f = f (.ref 8) := rfl
theorem am_gf_4_5 (σ : am_St) (τ : Int64) (f : Value → Option am_Rs) : am_gf 4 1 5 σ τ f = f (.ref 9) := rfl
theorem am_gf_4_6 (σ : am_St) (τ : Int64) (f : Value → Option am_Rs) : am_gf 4 1 6 σ τ f = f (.ref 10) := rfl
theorem am_gf_4_7 (σ : am_St) (τ : Int64) (f : Value → Option am_Rs) : am_gf 4 1 7 σ τ f = f (.ref 11) := rfl
theorem am_gf_4_8 (σ : am_St) (τ : Int64) (f : Value → Option am_Rs) : am_gf 4 1 8 σ τ f = f (.ref 12) := rfl
theorem am_gf_4_9 (σ : am_St) (τ : Int64) (f : Value → Option am_Rs) : am_gf 4 1 9 σ τ f = f (.ref 13) := rfl
theorem am_gf_4_10 (σ : am_St) (τ : Int64) (f : Value → Option am_Rs) : am_gf 4 1 10 σ τ f = f (.ref 14) := rfl
theorem am_ai_5 (j : Nat) (f : Nat → Option am_Rs) (hj : j < 12) : am_ai false 5 (nI j) f = f j := am_ai_of rfl hj (by omega)
theorem am_ai_6 (j : Nat) (f : Nat → Option am_Rs) (hj : j < 12) : am_ai false 6 (nI j) f = f j := am_ai_of rfl hj (by omega)
theorem am_ai_7 (j : Nat) (f : Nat → Option am_Rs) (hj : j < 12) : am_ai false 7 (nI j) f = f j := am_ai_of rfl hj (by omega)
theorem am_ai_8 (j : Nat) (f : Nat → Option am_Rs) (hj : j < 12) : am_ai false 8 (nI j) f = f j := am_ai_of rfl hj (by omega)
theorem am_ai_9 (j : Nat) (f : Nat → Option am_Rs) (hj : j < 12) : am_ai true 9 (nI j) f = f j := am_ai_of rfl hj (by omega)
theorem am_ai_10 (j : Nat) (f : Nat → Option am_Rs) (hj : j < 12) : am_ai false 10 (nI j) f = f j := am_ai_of rfl hj (by omega)
theorem am_ai_11 (j : Nat) (f : Nat → Option am_Rs) (hj : j < 12) : am_ai false 11 (nI j) f = f j := am_ai_of rfl hj (by omega)
theorem am_ai_12 (j : Nat) (f : Nat → Option am_Rs) (hj : j < 12) : am_ai false 12 (nI j) f = f j := am_ai_of rfl hj (by omega)
theorem am_ai_13 (j : Nat) (f : Nat → Option am_Rs) (hj : j < 12) : am_ai true 13 (nI j) f = f j := am_ai_of rfl hj (by omega)
theorem am_ai_14 (j : Nat) (f : Nat → Option am_Rs) (hj : j < 144) : am_ai false 14 (nI j) f = f j := am_ai_of rfl hj (by omega)
theorem am_kc_15 : am_kc 15 = 7 := rfl
theorem am_gf_15_0 (σ : am_St) (τ : Int64) (f : Value → Option am_Rs) : am_gf 15 7 0 σ τ f = f (.ref 16) := rfl
theorem am_gf_15_1 (σ : am_St) (τ : Int64) (f : Value → Option am_Rs) : am_gf 15 7 1 σ τ f = f (.ref 17) := rfl
theorem am_gf_15_2 (σ : am_St) (τ : Int64) (f : Value → Option am_Rs) : am_gf 15 7 2 σ τ f = f (.ref 4) := rfl
theorem am_ai_16 (j : Nat) (f : Nat → Option am_Rs) (hj : j < 12) : am_ai false 16 (nI j) f = f j := am_ai_of rfl hj (by omega)
theorem am_ai_17 (j : Nat) (f : Nat → Option am_Rs) (hj : j < 12) : am_ai false 17 (nI j) f = f j := am_ai_of rfl hj (by omega)
theorem am_kc_18 : am_kc 18 = 7 := rfl
theorem am_gf_18_0 (σ : am_St) (τ : Int64) (f : Value → Option am_Rs) : am_gf 18 7 0 σ τ f = f (.ref 19) := rfl
theorem am_gf_18_1 (σ : am_St) (τ : Int64) (f : Value → Option am_Rs) : am_gf 18 7 1 σ τ f = f (.ref 20) := rfl
theorem am_gf_18_2 (σ : am_St) (τ : Int64) (f : Value → Option am_Rs) : am_gf 18 7 2 σ τ f = f (.ref 4) := rfl
theorem am_ai_19 (j : Nat) (f : Nat → Option am_Rs) (hj : j < 12) : am_ai false 19 (nI j) f = f j := am_ai_of rfl hj (by omega)
theorem am_ai_20 (j : Nat) (f : Nat → Option am_Rs) (hj : j < 12) : am_ai false 20 (nI j) f = f j := am_ai_of rfl hj (by omega)
theorem am_kc_21 : am_kc 21 = 6 := rfl
theorem am_gf_21_0 (σ : am_St) (τ : Int64) (f : Value → Option am_Rs) : am_gf 21 6 0 σ τ f = f (.int (σ 21 0)) := rfl
theorem am_pf_21_0 (x : Int32) (σ : am_St) (f : am_St → Option am_Rs) : am_pf 21 6 0 x σ f = f (am_up σ 21 0 x) := rfl
theorem am_gf_21_1 (σ : am_St) (τ : Int64) (f : Value → Option am_Rs) : am_gf 21 6 1 σ τ f = f (.int (σ 21 1)) := rfl
theorem am_pf_21_1 (x : Int32) (σ : am_St) (f : am_St → Option am_Rs) : am_pf 21 6 1 x σ f = f (am_up σ 21 1 x) := rfl
theorem am_gf_21_2 (σ : am_St) (τ : Int64) (f : Value → Option am_Rs) : am_gf 21 6 2 σ τ f = f (.ref 22) := rfl
theorem am_gf_21_3 (σ : am_St) (τ : Int64) (f : Value → Option am_Rs) : am_gf 21 6 3 σ τ f = f (.ref 23) := rfl
theorem am_gf_21_4 (σ : am_St) (τ : Int64) (f : Value → Option am_Rs) : am_gf 21 6 4 σ τ f = f (.ref 24) := rfl
theorem am_gf_21_5 (σ : am_St) (τ : Int64) (f : Value → Option am_Rs) : am_gf 21 6 5 σ τ f = f (.ref 4) := rfl
theorem am_gf_21_6 (σ : am_St) (τ : Int64) (f : Value → Option am_Rs) : am_gf 21 6 6 σ τ f = f (.ref 18) := rfl
theorem am_ai_22 (j : Nat) (f : Nat → Option am_Rs) (hj : j < 4) : am_ai false 22 (nI j) f = f j := am_ai_of rfl hj (by omega)
theorem am_ai_23 (j : Nat) (f : Nat → Option am_Rs) (hj : j < 4) : am_ai false 23 (nI j) f = f j := am_ai_of rfl hj (by omega)
theorem am_ai_24 (j : Nat) (f : Nat → Option am_Rs) (hj : j < 12) : am_ai false 24 (nI j) f = f j := am_ai_of rfl hj (by omega)
theorem am_kc_25 : am_kc 25 = 2 := rfl
theorem am_gf_25_0 (σ : am_St) (τ : Int64) (f : Value → Option am_Rs) : am_gf 25 2 0 σ τ f = f (.int (σ 25 0)) := rfl
theorem am_pf_25_0 (x : Int32) (σ : am_St) (f : am_St → Option am_Rs) : am_pf 25 2 0 x σ f = f (am_up σ 25 0 x) := rfl
theorem am_gf_25_1 (σ : am_St) (τ : Int64) (f : Value → Option am_Rs) : am_gf 25 2 1 σ τ f = f (.ref 26) := rfl
theorem am_gf_25_2 (σ : am_St) (τ : Int64) (f : Value → Option am_Rs) : am_gf 25 2 2 σ τ f = f (.int (σ 25 2)) := rfl
theorem am_pf_25_2 (x : Int32) (σ : am_St) (f : am_St → Option am_Rs) : am_pf 25 2 2 x σ f = f (am_up σ 25 2 x) := rfl
theorem am_gf_25_3 (σ : am_St) (τ : Int64) (f : Value → Option am_Rs) : am_gf 25 2 3 σ τ f = f (.ref 27) := rfl
theorem am_gf_25_4 (σ : am_St) (τ : Int64) (f : Value → Option am_Rs) : am_gf 25 2 4 σ τ f = f (.ref 28) := rfl
theorem am_gf_25_5 (σ : am_St) (τ : Int64) (f : Value → Option am_Rs) : am_gf 25 2 5 σ τ f = f (.ref 29) := rfl
theorem am_gf_25_6 (σ : am_St) (τ : Int64) (f : Value → Option am_Rs) : am_gf 25 2 6 σ τ f = f (.ref 30) := rfl
theorem am_gf_25_7 (σ : am_St) (τ : Int64) (f : Value → Option am_Rs) : am_gf 25 2 7 σ τ f = f (.ref 4) := rfl
theorem am_gf_25_8 (σ : am_St) (τ : Int64) (f : Value → Option am_Rs) : am_gf 25 2 8 σ τ f = f (.ref 18) := rfl
theorem am_ai_26 (j : Nat) (f : Nat → Option am_Rs) (hj : j < 12) : am_ai false 26 (nI j) f = f j := am_ai_of rfl hj (by omega)
theorem am_ai_27 (j : Nat) (f : Nat → Option am_Rs) (hj : j < 3) : am_ai false 27 (nI j) f = f j := am_ai_of rfl hj (by omega)
theorem am_ai_28 (j : Nat) (f : Nat → Option am_Rs) (hj : j < 3) : am_ai false 28 (nI j) f = f j := am_ai_of rfl hj (by omega)
theorem am_ai_29 (j : Nat) (f : Nat → Option am_Rs) (hj : j < 12) : am_ai false 29 (nI j) f = f j := am_ai_of rfl hj (by omega)
theorem am_ai_30 (j : Nat) (f : Nat → Option am_Rs) (hj : j < 12) : am_ai false 30 (nI j) f = f j := am_ai_of rfl hj (by omega)
theorem am_kc_31 : am_kc 31 = 5 := rfl
theorem am_gf_31_0 (σ : am_St) (τ : Int64) (f : Value → Option am_Rs) : am_gf 31 5 0 σ τ f = f (.int (σ 31 0)) := rfl
theorem am_pf_31_0 (x : Int32) (σ : am_St) (f : am_St → Option am_Rs) : am_pf 31 5 0 x σ f = f (am_up σ 31 0 x) := rfl
theorem am_gf_31_1 (σ : am_St) (τ : Int64) (f : Value → Option am_Rs) : am_gf 31 5 1 σ τ f = f (.ref 32) := rfl
theorem am_gf_31_2 (σ : am_St) (τ : Int64) (f : Value → Option am_Rs) : am_gf 31 5 2 σ τ f = f (.ref 33) := rfl
theorem am_gf_31_3 (σ : am_St) (τ : Int64) (f : Value → Option am_Rs) : am_gf 31 5 3 σ τ f = f (.ref 4) := rfl
theorem am_gf_31_4 (σ : am_St) (τ : Int64) (f : Value → Option am_Rs) : am_gf 31 5 4 σ τ f = f (.ref 18) := rfl
theorem am_kc_32 : am_kc 32 = 4 := rfl
theorem am_gf_32_0 (σ : am_St) (τ : Int64) (f : Value → Option am_Rs) : am_gf 32 4 0 σ τ f = f (.int (σ 32 0)) := rfl
theorem am_pf_32_0 (x : Int32) (σ : am_St) (f : am_St → Option am_Rs) : am_pf 32 4 0 x σ f = f (am_up σ 32 0 x) := rfl
theorem am_gf_32_1 (σ : am_St) (τ : Int64) (f : Value → Option am_Rs) : am_gf 32 4 1 σ τ f = f (.int (σ 32 1)) := rfl
theorem am_pf_32_1 (x : Int32) (σ : am_St) (f : am_St → Option am_Rs) : am_pf 32 4 1 x σ f = f (am_up σ 32 1 x) := rfl
theorem am_gf_32_2 (σ : am_St) (τ : Int64) (f : Value → Option am_Rs) : am_gf 32 4 2 σ τ f = f (.int (σ 32 2)) := rfl
theorem am_pf_32_2 (x : Int32) (σ : am_St) (f : am_St → Option am_Rs) : am_pf 32 4 2 x σ f = f (am_up σ 32 2 x) := rfl
theorem am_gf_32_3 (σ : am_St) (τ : Int64) (f : Value → Option am_Rs) : am_gf 32 4 3 σ τ f = f (.int (σ 32 3)) := rfl
theorem am_pf_32_3 (x : Int32) (σ : am_St) (f : am_St → Option am_Rs) : am_pf 32 4 3 x σ f = f (am_up σ 32 3 x) := rfl
theorem am_kc_33 : am_kc 33 = 4 := rfl
theorem am_gf_33_0 (σ : am_St) (τ : Int64) (f : Value → Option am_Rs) : am_gf 33 4 0 σ τ f = f (.int (σ 33 0)) := rfl
theorem am_pf_33_0 (x : Int32) (σ : am_St) (f : am_St → Option am_Rs) : am_pf 33 4 0 x σ f = f (am_up σ 33 0 x) := rfl
theorem am_gf_33_1 (σ : am_St) (τ : Int64) (f : Value → Option am_Rs) : am_gf 33 4 1 σ τ f = f (.int (σ 33 1)) := rfl
theorem am_pf_33_1 (x : Int32) (σ : am_St) (f : am_St → Option am_Rs) : am_pf 33 4 1 x σ f = f (am_up σ 33 1 x) := rfl
theorem am_gf_33_2 (σ : am_St) (τ : Int64) (f : Value → Option am_Rs) : am_gf 33 4 2 σ τ f = f (.int (σ 33 2)) := rfl
theorem am_pf_33_2 (x : Int32) (σ : am_St) (f : am_St → Option am_Rs) : am_pf 33 4 2 x σ f = f (am_up σ 33 2 x) := rfl
theorem am_gf_33_3 (σ : am_St) (τ : Int64) (f : Value → Option am_Rs) : am_gf 33 4 3 σ τ f = f (.int (σ 33 3)) := rfl
theorem am_pf_33_3 (x : Int32) (σ : am_St) (f : am_St → Option am_Rs) : am_pf 33 4 3 x σ f = f (am_up σ 33 3 x) := rfl
theorem am_kc_34 : am_kc 34 = 0 := rfl
theorem am_gf_34_0 (σ : am_St) (τ : Int64) (f : Value → Option am_Rs) : am_gf 34 0 0 σ τ f = f (.int (σ 34 0)) := rfl
theorem am_pf_34_0 (x : Int32) (σ : am_St) (f : am_St → Option am_Rs) : am_pf 34 0 0 x σ f = f (am_up σ 34 0 x) := rfl
theorem am_gf_34_1 (σ : am_St) (τ : Int64) (f : Value → Option am_Rs) : am_gf 34 0 1 σ τ f = f (.ref 35) := rfl
theorem am_gf_34_2 (σ : am_St) (τ : Int64) (f : Value → Option am_Rs) : am_gf 34 0 2 σ τ f = f (.ref 36) := rfl
theorem am_gf_34_3 (σ : am_St) (τ : Int64) (f : Value → Option am_Rs) : am_gf 34 0 3 σ τ f = f (.ref 37) := rfl
theorem am_gf_34_4 (σ : am_St) (τ : Int64) (f : Value → Option am_Rs) : am_gf 34 0 4 σ τ f = f (.int (σ 34 4)) := rfl
theorem am_pf_34_4 (x : Int32) (σ : am_St) (f : am_St → Option am_Rs) : am_pf 34 0 4 x σ f = f (am_up σ 34 4 x) := rfl
theorem am_gf_34_5 (σ : am_St) (τ : Int64) (f : Value → Option am_Rs) : am_gf 34 0 5 σ τ f = f (.ref 4) := rfl
theorem am_gf_34_6 (σ : am_St) (τ : Int64) (f : Value → Option am_Rs) : am_gf 34 0 6 σ τ f = f (.ref 15) := rfl
theorem am_ai_35 (j : Nat) (f : Nat → Option am_Rs) (hj : j < 12) : am_ai false 35 (nI j) f = f j := am_ai_of rfl hj (by omega)
theorem am_ai_36 (j : Nat) (f : Nat → Option am_Rs) (hj : j < 12) : am_ai false 36 (nI j) f = f j := am_ai_of rfl hj (by omega)
theorem am_ai_37 (j : Nat) (f : Nat → Option am_Rs) (hj : j < 12) : am_ai false 37 (nI j) f = f j := am_ai_of rfl hj (by omega)
theorem am_kc_38 : am_kc 38 = 3 := rfl
theorem am_gf_38_0 (σ : am_St) (τ : Int64) (f : Value → Option am_Rs) : am_gf 38 3 0 σ τ f = f (.int (σ 38 0)) := rfl
theorem am_pf_38_0 (x : Int32) (σ : am_St) (f : am_St → Option am_Rs) : am_pf 38 3 0 x σ f = if x = 0 ∨ x = 1 then f (am_up σ 38 0 x) else none := rfl
theorem am_gf_38_1 (σ : am_St) (τ : Int64) (f : Value → Option am_Rs) : am_gf 38 3 1 σ τ f = f (.int (σ 38 1)) := rfl
theorem am_pf_38_1 (x : Int32) (σ : am_St) (f : am_St → Option am_Rs) : am_pf 38 3 1 x σ f = f (am_up σ 38 1 x) := rfl
theorem am_gf_38_2 (σ : am_St) (τ : Int64) (f : Value → Option am_Rs) : am_gf 38 3 2 σ τ f = f (.ref 39) := rfl
theorem am_gf_38_3 (σ : am_St) (τ : Int64) (f : Value → Option am_Rs) : am_gf 38 3 3 σ τ f = f (.ref 40) := rfl
theorem am_gf_38_4 (σ : am_St) (τ : Int64) (f : Value → Option am_Rs) : am_gf 38 3 4 σ τ f = f (.ref 41) := rfl
theorem am_ai_39 (j : Nat) (f : Nat → Option am_Rs) (hj : j < 12) : am_ai false 39 (nI j) f = f j := am_ai_of rfl hj (by omega)
theorem am_ai_40 (j : Nat) (f : Nat → Option am_Rs) (hj : j < 12) : am_ai false 40 (nI j) f = f j := am_ai_of rfl hj (by omega)
theorem am_ai_41 (j : Nat) (f : Nat → Option am_Rs) (hj : j < 12) : am_ai true 41 (nI j) f = f j := am_ai_of rfl hj (by omega)
theorem am_kc_42 : am_kc 42 = 10 := rfl
theorem am_gf_42_0 (σ : am_St) (τ : Int64) (f : Value → Option am_Rs) : am_gf 42 10 0 σ τ f = f (.ref 43) := rfl
theorem am_gf_42_1 (σ : am_St) (τ : Int64) (f : Value → Option am_Rs) : am_gf 42 10 1 σ τ f = f (.int (σ 42 1)) := rfl
theorem am_pf_42_1 (x : Int32) (σ : am_St) (f : am_St → Option am_Rs) : am_pf 42 10 1 x σ f = f (am_up σ 42 1 x) := rfl
theorem am_gf_42_2 (σ : am_St) (τ : Int64) (f : Value → Option am_Rs) : am_gf 42 10 2 σ τ f = f (.ref 44) := rfl
theorem am_gf_42_3 (σ : am_St) (τ : Int64) (f : Value → Option am_Rs) : am_gf 42 10 3 σ τ f = f (.ref 45) := rfl
theorem am_gf_42_4 (σ : am_St) (τ : Int64) (f : Value → Option am_Rs) : am_gf 42 10 4 σ τ f = f (.int (σ 42 4)) := rfl
theorem am_pf_42_4 (x : Int32) (σ : am_St) (f : am_St → Option am_Rs) : am_pf 42 10 4 x σ f = f (am_up σ 42 4 x) := rfl
theorem am_gf_42_5 (σ : am_St) (τ : Int64) (f : Value → Option am_Rs) : am_gf 42 10 5 σ τ f = f (.int (σ 42 5)) := rfl
theorem am_pf_42_5 (x : Int32) (σ : am_St) (f : am_St → Option am_Rs) : am_pf 42 10 5 x σ f = f (am_up σ 42 5 x) := rfl
theorem am_gf_42_6 (σ : am_St) (τ : Int64) (f : Value → Option am_Rs) : am_gf 42 10 6 σ τ f = f (.int (σ 42 6)) := rfl
theorem am_pf_42_6 (x : Int32) (σ : am_St) (f : am_St → Option am_Rs) : am_pf 42 10 6 x σ f = f (am_up σ 42 6 x) := rfl
theorem am_gf_42_7 (σ : am_St) (τ : Int64) (f : Value → Option am_Rs) : am_gf 42 10 7 σ τ f = f (.int (σ 42 7)) := rfl
theorem am_pf_42_7 (x : Int32) (σ : am_St) (f : am_St → Option am_Rs) : am_pf 42 10 7 x σ f = f (am_up σ 42 7 x) := rfl
theorem am_gf_42_8 (σ : am_St) (τ : Int64) (f : Value → Option am_Rs) : am_gf 42 10 8 σ τ f = f (.ref 46) := rfl
theorem am_gf_42_9 (σ : am_St) (τ : Int64) (f : Value → Option am_Rs) : am_gf 42 10 9 σ τ f = f (.ref 47) := rfl
theorem am_gf_42_10 (σ : am_St) (τ : Int64) (f : Value → Option am_Rs) : am_gf 42 10 10 σ τ f = f (.ref 48) := rfl
theorem am_gf_42_11 (σ : am_St) (τ : Int64) (f : Value → Option am_Rs) : am_gf 42 10 11 σ τ f = f (.ref 49) := rfl
theorem am_gf_42_12 (σ : am_St) (τ : Int64) (f : Value → Option am_Rs) : am_gf 42 10 12 σ τ f = f (.ref 50) := rfl
theorem am_gf_42_13 (σ : am_St) (τ : Int64) (f : Value → Option am_Rs) : am_gf 42 10 13 σ τ f = f (.ref 51) := rfl
theorem am_gf_42_14 (σ : am_St) (τ : Int64) (f : Value → Option am_Rs) : am_gf 42 10 14 σ τ f = f (.ref 52) := rfl
theorem am_gf_42_15 (σ : am_St) (τ : Int64) (f : Value → Option am_Rs) : am_gf 42 10 15 σ τ f = f (.ref 53) := rfl
theorem am_gf_42_16 (σ : am_St) (τ : Int64) (f : Value → Option am_Rs) : am_gf 42 10 16 σ τ f = f (.ref 54) := rfl
theorem am_gf_42_17 (σ : am_St) (τ : Int64) (f : Value → Option am_Rs) : am_gf 42 10 17 σ τ f = f (.ref 55) := rfl
theorem am_gf_42_18 (σ : am_St) (τ : Int64) (f : Value → Option am_Rs) : am_gf 42 10 18 σ τ f = f (.ref 56) := rfl
theorem am_gf_42_19 (σ : am_St) (τ : Int64) (f : Value → Option am_Rs) : am_gf 42 10 19 σ τ f = f (.ref 57) := rfl
theorem am_gf_42_20 (σ : am_St) (τ : Int64) (f : Value → Option am_Rs) : am_gf 42 10 20 σ τ f = f (.ref 58) := rfl
theorem am_gf_42_21 (σ : am_St) (τ : Int64) (f : Value → Option am_Rs) : am_gf 42 10 21 σ τ f = f (.int (σ 42 21)) := rfl
theorem am_pf_42_21 (x : Int32) (σ : am_St) (f : am_St → Option am_Rs) : am_pf 42 10 21 x σ f = f (am_up σ 42 21 x) := rfl
theorem am_gf_42_22 (σ : am_St) (τ : Int64) (f : Value → Option am_Rs) : am_gf 42 10 22 σ τ f = f (.ref 59) := rfl
theorem am_gf_42_23 (σ : am_St) (τ : Int64) (f : Value → Option am_Rs) : am_gf 42 10 23 σ τ f = f (.ref 60) := rfl
theorem am_gf_42_24 (σ : am_St) (τ : Int64) (f : Value → Option am_Rs) : am_gf 42 10 24 σ τ f = f (.ref 61) := rfl
theorem am_gf_42_25 (σ : am_St) (τ : Int64) (f : Value → Option am_Rs) : am_gf 42 10 25 σ τ f = f (.ref 62) := rfl
theorem am_gf_42_26 (σ : am_St) (τ : Int64) (f : Value → Option am_Rs) : am_gf 42 10 26 σ τ f = f (.ref 63) := rfl
theorem am_gf_42_27 (σ : am_St) (τ : Int64) (f : Value → Option am_Rs) : am_gf 42 10 27 σ τ f = f (.ref 64) := rfl
theorem am_gf_42_28 (σ : am_St) (τ : Int64) (f : Value → Option am_Rs) : am_gf 42 10 28 σ τ f = f (.ref 65) := rfl
theorem am_gf_42_29 (σ : am_St) (τ : Int64) (f : Value → Option am_Rs) : am_gf 42 10 29 σ τ f = f (.ref 66) := rfl
theorem am_gf_42_30 (σ : am_St) (τ : Int64) (f : Value → Option am_Rs) : am_gf 42 10 30 σ τ f = f (.ref 67) := rfl
theorem am_gf_42_31 (σ : am_St) (τ : Int64) (f : Value → Option am_Rs) : am_gf 42 10 31 σ τ f = f (.ref 68) := rfl
theorem am_gf_42_32 (σ : am_St) (τ : Int64) (f : Value → Option am_Rs) : am_gf 42 10 32 σ τ f = f (.int (σ 42 32)) := rfl
theorem am_pf_42_32 (x : Int32) (σ : am_St) (f : am_St → Option am_Rs) : am_pf 42 10 32 x σ f = f (am_up σ 42 32 x) := rfl
theorem am_gf_42_33 (σ : am_St) (τ : Int64) (f : Value → Option am_Rs) : am_gf 42 10 33 σ τ f = f (.int (σ 42 33)) := rfl
theorem am_pf_42_33 (x : Int32) (σ : am_St) (f : am_St → Option am_Rs) : am_pf 42 10 33 x σ f = f (am_up σ 42 33 x) := rfl
theorem am_gf_42_34 (σ : am_St) (τ : Int64) (f : Value → Option am_Rs) : am_gf 42 10 34 σ τ f = f (.ref 69) := rfl
theorem am_gf_42_35 (σ : am_St) (τ : Int64) (f : Value → Option am_Rs) : am_gf 42 10 35 σ τ f = f (.long τ) := rfl
theorem am_ai_43 (j : Nat) (f : Nat → Option am_Rs) (hj : j < 16) : am_ai false 43 (nI j) f = f j := am_ai_of rfl hj (by omega)
theorem am_ai_44 (j : Nat) (f : Nat → Option am_Rs) (hj : j < 4) : am_ai false 44 (nI j) f = f j := am_ai_of rfl hj (by omega)
theorem am_ai_45 (j : Nat) (f : Nat → Option am_Rs) (hj : j < 4) : am_ai false 45 (nI j) f = f j := am_ai_of rfl hj (by omega)
theorem am_ai_46 (j : Nat) (f : Nat → Option am_Rs) (hj : j < 12) : am_ai false 46 (nI j) f = f j := am_ai_of rfl hj (by omega)
theorem am_ai_47 (j : Nat) (f : Nat → Option am_Rs) (hj : j < 12) : am_ai false 47 (nI j) f = f j := am_ai_of rfl hj (by omega)
theorem am_ai_48 (j : Nat) (f : Nat → Option am_Rs) (hj : j < 12) : am_ai false 48 (nI j) f = f j := am_ai_of rfl hj (by omega)
theorem am_ai_49 (j : Nat) (f : Nat → Option am_Rs) (hj : j < 12) : am_ai false 49 (nI j) f = f j := am_ai_of rfl hj (by omega)
theorem am_ai_50 (j : Nat) (f : Nat → Option am_Rs) (hj : j < 12) : am_ai false 50 (nI j) f = f j := am_ai_of rfl hj (by omega)
theorem am_ai_51 (j : Nat) (f : Nat → Option am_Rs) (hj : j < 12) : am_ai false 51 (nI j) f = f j := am_ai_of rfl hj (by omega)
theorem am_ai_52 (j : Nat) (f : Nat → Option am_Rs) (hj : j < 12) : am_ai false 52 (nI j) f = f j := am_ai_of rfl hj (by omega)
theorem am_ai_53 (j : Nat) (f : Nat → Option am_Rs) (hj : j < 12) : am_ai false 53 (nI j) f = f j := am_ai_of rfl hj (by omega)
theorem am_ai_54 (j : Nat) (f : Nat → Option am_Rs) (hj : j < 12) : am_ai false 54 (nI j) f = f j := am_ai_of rfl hj (by omega)
theorem am_ai_55 (j : Nat) (f : Nat → Option am_Rs) (hj : j < 12) : am_ai false 55 (nI j) f = f j := am_ai_of rfl hj (by omega)
theorem am_ai_56 (j : Nat) (f : Nat → Option am_Rs) (hj : j < 12) : am_ai false 56 (nI j) f = f j := am_ai_of rfl hj (by omega)
theorem am_ai_57 (j : Nat) (f : Nat → Option am_Rs) (hj : j < 4) : am_ai false 57 (nI j) f = f j := am_ai_of rfl hj (by omega)
theorem am_ai_58 (j : Nat) (f : Nat → Option am_Rs) (hj : j < 12) : am_ai false 58 (nI j) f = f j := am_ai_of rfl hj (by omega)
theorem am_ai_59 (j : Nat) (f : Nat → Option am_Rs) (hj : j < 12) : am_ai false 59 (nI j) f = f j := am_ai_of rfl hj (by omega)
theorem am_ai_60 (j : Nat) (f : Nat → Option am_Rs) (hj : j < 4) : am_ai false 60 (nI j) f = f j := am_ai_of rfl hj (by omega)
theorem am_ai_61 (j : Nat) (f : Nat → Option am_Rs) (hj : j < 12) : am_ai false 61 (nI j) f = f j := am_ai_of rfl hj (by omega)
theorem am_ai_62 (j : Nat) (f : Nat → Option am_Rs) (hj : j < 3) : am_ai false 62 (nI j) f = f j := am_ai_of rfl hj (by omega)
theorem am_ai_63 (j : Nat) (f : Nat → Option am_Rs) (hj : j < 4) : am_ai false 63 (nI j) f = f j := am_ai_of rfl hj (by omega)
theorem am_ai_64 (j : Nat) (f : Nat → Option am_Rs) (hj : j < 12) : am_ai false 64 (nI j) f = f j := am_ai_of rfl hj (by omega)
theorem am_ai_65 (j : Nat) (f : Nat → Option am_Rs) (hj : j < 12) : am_ai false 65 (nI j) f = f j := am_ai_of rfl hj (by omega)
theorem am_ai_66 (j : Nat) (f : Nat → Option am_Rs) (hj : j < 53248) : am_ai false 66 (nI j) f = f j := am_ai_of rfl hj (by omega)
theorem am_ai_67 (j : Nat) (f : Nat → Option am_Rs) (hj : j < 12) : am_ai false 67 (nI j) f = f j := am_ai_of rfl hj (by omega)
theorem am_ai_68 (j : Nat) (f : Nat → Option am_Rs) (hj : j < 12) : am_ai false 68 (nI j) f = f j := am_ai_of rfl hj (by omega)
theorem am_ai_69 (j : Nat) (f : Nat → Option am_Rs) (hj : j < 36) : am_ai false 69 (nI j) f = f j := am_ai_of rfl hj (by omega)
