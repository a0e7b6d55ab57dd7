/-! longs by their bytes; OtherName: letters -/
def uN (x : Int64) : Nat := x.toUInt64.toNat
theorem l_bit (x : Int64) (i : Nat) : x.toBitVec.getLsbD i = (uN x).testBit i := rfl
theorem l_i32 (x : Int64) {i : Nat} (hi : i < 32) : bt x.toInt32 i = (uN x).testBit i := by
  unfold bt
  rw [Int64.toBitVec_toInt32, BitVec.getLsbD_signExtend]
  rw [decide_eq_true hi, Bool.true_and, if_pos (by omega)]
  rfl
theorem n_bt (m : Nat) {i : Nat} (hi : i < 32) : bt (nI m) i = m.testBit i := by
  unfold bt
  show (BitVec.ofNat 32 m).getLsbD i = _
  rw [BitVec.getLsbD_ofNat, decide_eq_true hi, Bool.true_and]
theorem l_b (x : Int64) : x.toInt32 &&& 255 = nI (uN x % 256) := by
  apply b_ext
  intro i hi
  rw [b_and, l_i32 x hi, b_255, n_bt _ hi, show (256 : Nat) = 2 ^ 8 from rfl, Nat.testBit_mod_two_pow, Bool.and_comm]
theorem l_255 : ∀ i, i < 64 → (255 : Int64).toBitVec.getLsbD i = decide (i < 8) := by decide +kernel
theorem l_a (x : Int64) : (x &&& 255).toInt32 = nI (uN x % 256) := by
  apply b_ext
  intro i hi
  rw [l_i32 _ hi, n_bt _ hi, show (256 : Nat) = 2 ^ 8 from rfl, Nat.testBit_mod_two_pow, ← l_bit, Int64.toBitVec_and, BitVec.getLsbD_and, l_255 i (by omega), l_bit, Bool.and_comm]
theorem l_sn : ∀ k, k < 8 → ((nI (8 * k)).toInt64.toUInt64 &&& Int64.toUInt64 63).toNat % 64 = 8 * k := by decide +kernel
theorem l_sh (x : Int64) {k : Nat} (hk : k < 8) : uN (x.toUInt64 >>> ((nI (8 * k)).toInt64.toUInt64 &&& Int64.toUInt64 63)).toInt64 = uN x / 2 ^ (8 * k) := by
  unfold uN
  show (x.toUInt64 >>> ((nI (8 * k)).toInt64.toUInt64 &&& Int64.toUInt64 63)).toNat = _
  rw [UInt64.toNat_shiftRight, l_sn k hk, Nat.shiftRight_eq_div_pow]
/-- the letters of a long -/
def byN (w : Int64) (k : Nat) : Nat := uN w / 2 ^ (8 * k) % 256
theorem byN_lt (w : Int64) (k : Nat) : byN w k < 256 := Nat.mod_lt _ (by omega)
def czN (w : Int64) (k : Nat) : Nat := cnt (fun j => !decide (byN w j = 0)) k
theorem czN_le (w : Int64) (k : Nat) : czN w k ≤ k := cnt_le _ _
theorem czN_s (w : Int64) (k : Nat) : czN w (k + 1) = czN w k + (if byN w k = 0 then 0 else 1) := by
  unfold czN
  rw [cnt_s]
  by_cases h : byN w k = 0 <;> simp [h]
def gdF (w : Int64) : Nat → Bool
  | 0 => true
  | k + 1 => gdF w k && (decide (byN w k ≤ 126) && (decide (byN w k = 0) || decide (czN w k = k)))
theorem gdF_s (w : Int64) (k : Nat) : gdF w (k + 1) = (gdF w k && (decide (byN w k ≤ 126) && (decide (byN w k = 0) || decide (czN w k = k)))) := rfl
theorem gdF_f {w : Int64} {k m : Nat} (h : gdF w k = false) (hm : k ≤ m) : gdF w m = false := by
  induction hm with
  | refl => exact h
  | step _ ih => rw [gdF_s, ih]; rfl
theorem c_byteOf {d k : Nat} {σ : am_St} {τ : Int64} {w : Int64} (hk : k < 8) : am_call d 79 [.long w, .int (nI k)] σ τ = some (some (.int (nI (byN w k))), σ, τ) := by
  show am_run d 79 0 [.long w, .null, .int (nI k)] [] σ τ = _
  simp (disch := first | assumption | omega | rfl | exact Nat.le_of_ble_eq_true rfl | decide) only [r79_0, r79_1, r79_3, r79_4, r79_5, r79_6, r79_7, r79_10, r79_11, am_nl_i, am_nl_r, am_nl_n, am_nl_l, Option.bind_some, Option.toList_some, Option.toList_none, List.cons_append, List.nil_append, if_true, if_false, Bool.false_eq_true, Int.reduceEq, Int.reduceAdd, ↓reduceIte, show (8 : Int32) = nI 8 from rfl, pk_mul]
  rw [l_b, l_sh w hk]
  rfl
theorem c_letters_scan {d : Nat} {σ : am_St} {τ : Int64} {w : Int64} : ∀ k i (e : Int32) (v6 : Value), i + k = 8 → gdF w i = true → ((e = 0) = (czN w i = i)) → (gdF w 8 = false ∧ am_run (d + 1) 51 8 [.ref 0, .long w, .null, .int (nI (czN w i)), .int e, .int (nI i), v6] [] σ τ = some (some (.int (-102)), σ, τ)) ∨ (gdF w 8 = true ∧ ∃ (e' : Int32) (v6' : Value), am_run (d + 1) 51 8 [.ref 0, .long w, .null, .int (nI (czN w i)), .int e, .int (nI i), v6] [] σ τ = am_run (d + 1) 51 58 [.ref 0, .long w, .null, .int (nI (czN w 8)), .int e', .int (nI 8), v6'] [] σ τ) := by
  intro k
  induction k with
  | zero =>
    intro i e v6 hi hg he
    have : i = 8 := by omega
    subst this
    refine Or.inr ⟨hg, e, v6, ?_⟩
    rw [r51_8]
    simp (disch := first | assumption | omega | rfl | exact Nat.le_of_ble_eq_true rfl | decide) only [r51_0, r51_1, r51_2, r51_3, r51_5, r51_6, r51_10, r51_12, r51_15, r51_16, r51_18, r51_21, r51_23, r51_25, r51_28, r51_29, r51_31, r51_34, r51_36, r51_39, r51_41, r51_43, r51_46, r51_48, r51_49, r51_52, r51_55, r51_59, r51_62, r51_65, r51_66, r51_67, r51_69, r51_72, r51_74, r51_75, r51_76, r51_78, r51_80, r51_81, r51_84, r51_85, r51_88, r51_89, r51_91, r51_94, r51_97, r51_100, r51_103, r51_104, r51_107, r51_110, am_gf_1_1, am_gf_0_0, am_nl_i, am_nl_r, am_nl_n, am_nl_l, Option.bind_some, Option.toList_some, Option.toList_none, List.cons_append, List.nil_append, if_true, if_false, Bool.false_eq_true, Int.reduceEq, Int.reduceAdd, ↓reduceIte, show (8 : Int32) = nI 8 from rfl, i_rf]
  | succ k ih =>
    intro i e v6 hi hg he
    have hc : ¬ 8 ≤ i := by omega
    have hb := byN_lt w i
    have hz := czN_le w i
    by_cases h0 : byN w i = 0
    · have es : czN w (i + 1) = czN w i := by rw [czN_s, if_pos h0, Nat.add_zero]
      have hi2 := ih (i + 1) 1 (.int (nI (byN w i))) (by omega) (by rw [gdF_s, hg, h0]; rfl) (by
        rw [es]
        apply propext
        exact ⟨fun q => absurd q e10, fun q => by omega⟩)
      have step : am_run (d + 1) 51 8 [.ref 0, .long w, .null, .int (nI (czN w i)), .int e, .int (nI i), v6] [] σ τ = am_run (d + 1) 51 8 [.ref 0, .long w, .null, .int (nI (czN w (i + 1))), .int 1, .int (nI (i + 1)), .int (nI (byN w i))] [] σ τ := by
        rw [r51_8, es]
        have e0 : nI (byN w i) = 0 := by rw [h0]; rfl
        simp (disch := first | assumption | omega | rfl | exact Nat.le_of_ble_eq_true rfl | decide) only [r51_0, r51_1, r51_2, r51_3, r51_5, r51_6, r51_10, r51_12, r51_15, r51_16, r51_18, r51_21, r51_23, r51_25, r51_28, r51_29, r51_31, r51_34, r51_36, r51_39, r51_41, r51_43, r51_46, r51_48, r51_49, r51_52, r51_55, r51_59, r51_62, r51_65, r51_66, r51_67, r51_69, r51_72, r51_74, r51_75, r51_76, r51_78, r51_80, r51_81, r51_84, r51_85, r51_88, r51_89, r51_91, r51_94, r51_97, r51_100, r51_103, r51_104, r51_107, r51_110, am_gf_1_1, am_gf_0_0, am_nl_i, am_nl_r, am_nl_n, am_nl_l, Option.bind_some, Option.toList_some, Option.toList_none, List.cons_append, List.nil_append, if_true, if_false, Bool.false_eq_true, Int.reduceEq, Int.reduceAdd, ↓reduceIte, show (8 : Int32) = nI 8 from rfl, ni_le, hc, c_byteOf, e0, nI_1]
      rw [step]
      exact hi2
    · have es : czN w (i + 1) = czN w i + 1 := by rw [czN_s, if_neg h0]
      have e0 : ¬ nI (byN w i) = 0 := nI_ne0 (by omega) (by omega)
      by_cases hbad : czN w i = i ∧ byN w i ≤ 126
      · have hi2 := ih (i + 1) 0 (.int (nI (byN w i))) (by omega) (by rw [gdF_s, hg, decide_eq_true hbad.2, decide_eq_true hbad.1, Bool.or_true]; rfl) (by
          rw [es]
          apply propext
          exact ⟨fun _ => by omega, fun _ => rfl⟩)
        have ez : e = 0 := by rw [he]; exact hbad.1
        have h126 : nI (byN w i) ≤ 126 := nI_le (b := 126) hbad.2 (by omega)
        have step : am_run (d + 1) 51 8 [.ref 0, .long w, .null, .int (nI (czN w i)), .int e, .int (nI i), v6] [] σ τ = am_run (d + 1) 51 8 [.ref 0, .long w, .null, .int (nI (czN w (i + 1))), .int 0, .int (nI (i + 1)), .int (nI (byN w i))] [] σ τ := by
          rw [r51_8, es]
          simp (disch := first | assumption | omega | rfl | exact Nat.le_of_ble_eq_true rfl | decide) only [r51_0, r51_1, r51_2, r51_3, r51_5, r51_6, r51_10, r51_12, r51_15, r51_16, r51_18, r51_21, r51_23, r51_25, r51_28, r51_29, r51_31, r51_34, r51_36, r51_39, r51_41, r51_43, r51_46, r51_48, r51_49, r51_52, r51_55, r51_59, r51_62, r51_65, r51_66, r51_67, r51_69, r51_72, r51_74, r51_75, r51_76, r51_78, r51_80, r51_81, r51_84, r51_85, r51_88, r51_89, r51_91, r51_94, r51_97, r51_100, r51_103, r51_104, r51_107, r51_110, am_gf_1_1, am_gf_0_0, am_nl_i, am_nl_r, am_nl_n, am_nl_l, Option.bind_some, Option.toList_some, Option.toList_none, List.cons_append, List.nil_append, if_true, if_false, Bool.false_eq_true, Int.reduceEq, Int.reduceAdd, ↓reduceIte, show (8 : Int32) = nI 8 from rfl, ni_le, hc, c_byteOf, e0, ez, h126, nI_1]
        rw [step]
        exact hi2
      · have hf : gdF w (i + 1) = false := by
          rw [gdF_s, hg, decide_eq_false h0]
          by_cases h1 : byN w i ≤ 126
          · have : ¬ czN w i = i := fun q => hbad ⟨q, h1⟩
            rw [decide_eq_false this]; simp
          · rw [decide_eq_false h1]; rfl
        refine Or.inl ⟨gdF_f hf (by omega), ?_⟩
        rw [r51_8]
        by_cases hez : e = 0
        · have h1 : ¬ byN w i ≤ 126 := fun q => hbad ⟨by rw [← he]; exact hez, q⟩
          have h126 : ¬ nI (byN w i) ≤ 126 := by
            show ¬ nI (byN w i) ≤ nI 126
            rw [ni_le (by omega) (by omega)]; exact h1
          simp (disch := first | assumption | omega | rfl | exact Nat.le_of_ble_eq_true rfl | decide) only [r51_0, r51_1, r51_2, r51_3, r51_5, r51_6, r51_10, r51_12, r51_15, r51_16, r51_18, r51_21, r51_23, r51_25, r51_28, r51_29, r51_31, r51_34, r51_36, r51_39, r51_41, r51_43, r51_46, r51_48, r51_49, r51_52, r51_55, r51_59, r51_62, r51_65, r51_66, r51_67, r51_69, r51_72, r51_74, r51_75, r51_76, r51_78, r51_80, r51_81, r51_84, r51_85, r51_88, r51_89, r51_91, r51_94, r51_97, r51_100, r51_103, r51_104, r51_107, r51_110, am_gf_1_1, am_gf_0_0, am_nl_i, am_nl_r, am_nl_n, am_nl_l, Option.bind_some, Option.toList_some, Option.toList_none, List.cons_append, List.nil_append, if_true, if_false, Bool.false_eq_true, Int.reduceEq, Int.reduceAdd, ↓reduceIte, show (8 : Int32) = nI 8 from rfl, ni_le, hc, c_byteOf, e0, hez, h126]
        · simp (disch := first | assumption | omega | rfl | exact Nat.le_of_ble_eq_true rfl | decide) only [r51_0, r51_1, r51_2, r51_3, r51_5, r51_6, r51_10, r51_12, r51_15, r51_16, r51_18, r51_21, r51_23, r51_25, r51_28, r51_29, r51_31, r51_34, r51_36, r51_39, r51_41, r51_43, r51_46, r51_48, r51_49, r51_52, r51_55, r51_59, r51_62, r51_65, r51_66, r51_67, r51_69, r51_72, r51_74, r51_75, r51_76, r51_78, r51_80, r51_81, r51_84, r51_85, r51_88, r51_89, r51_91, r51_94, r51_97, r51_100, r51_103, r51_104, r51_107, r51_110, am_gf_1_1, am_gf_0_0, am_nl_i, am_nl_r, am_nl_n, am_nl_l, Option.bind_some, Option.toList_some, Option.toList_none, List.cons_append, List.nil_append, if_true, if_false, Bool.false_eq_true, Int.reduceEq, Int.reduceAdd, ↓reduceIte, show (8 : Int32) = nI 8 from rfl, ni_le, hc, c_byteOf, e0, hez]
theorem c_letters_put {d n q : Nat} {τ : Int64} {w : Int64} {v4 v6 : Value} (hv : am_nl v4 = v4) (hq : q ≤ 8) (hnq : n + q ≤ 16) : ∀ k i (σ : am_St), i + k = q → σ 1 1 = nI (n + i) → ∃ σ' : am_St, am_run (d + 1) 51 78 [.ref 0, .long w, .null, .int (nI q), v4, .int (nI i), v6] [] σ τ = some (some (.int (nI (n + q))), σ', τ) ∧ (∀ c, c ≠ 1 → c ≠ 2 → σ' c = σ c) ∧ σ' 1 1 = nI (n + q) ∧ ∀ j, σ' 2 j = if n + i ≤ j ∧ j < n + q then nI (byN w (j - n)) else σ 2 j := by
  intro k
  induction k with
  | zero =>
    intro i σ hi hn
    have e : i = q := by omega
    subst e
    refine ⟨σ, ?_, fun _ _ _ => rfl, hn, fun j => by rw [if_neg (by omega)]⟩
    rw [r51_78]
    simp (disch := first | assumption | omega | rfl | exact Nat.le_of_ble_eq_true rfl | decide) only [r51_0, r51_1, r51_2, r51_3, r51_5, r51_6, r51_8, r51_10, r51_12, r51_15, r51_16, r51_18, r51_21, r51_23, r51_25, r51_28, r51_29, r51_31, r51_34, r51_36, r51_39, r51_41, r51_43, r51_46, r51_48, r51_49, r51_52, r51_55, r51_58, r51_59, r51_62, r51_65, r51_66, r51_67, r51_69, r51_72, r51_74, r51_75, r51_76, r51_80, r51_81, r51_84, r51_85, r51_88, r51_89, r51_91, r51_94, r51_97, r51_100, r51_103, r51_104, r51_107, r51_110, am_gf_1_1, am_gf_0_0, am_nl_i, am_nl_r, am_nl_n, am_nl_l, Option.bind_some, Option.toList_some, Option.toList_none, List.cons_append, List.nil_append, if_true, if_false, Bool.false_eq_true, Int.reduceEq, Int.reduceAdd, ↓reduceIte, i_rf, hn]
  | succ k ih =>
    intro i σ hi hn
    have hc : ¬ q ≤ i := by omega
    have hi8 : i < 8 := by omega
    obtain ⟨σ', g1, g2, g3, g4⟩ := ih (i + 1) (am_up (am_up σ 2 (n + i) (nI (byN w i))) 1 1 (nI (n + i + 1))) (by omega) (by rw [am_up_eq, pk_us]; rfl)
    refine ⟨σ', ?_, fun c x y => by rw [g2 c x y, am_up_ne x, am_up_ne y], g3, fun j => ?_⟩
    · rw [← g1, r51_78]
      simp (disch := first | assumption | omega | rfl | exact Nat.le_of_ble_eq_true rfl | decide) only [r51_0, r51_1, r51_2, r51_3, r51_5, r51_6, r51_8, r51_10, r51_12, r51_15, r51_16, r51_18, r51_21, r51_23, r51_25, r51_28, r51_29, r51_31, r51_34, r51_36, r51_39, r51_41, r51_43, r51_46, r51_48, r51_49, r51_52, r51_55, r51_58, r51_59, r51_62, r51_65, r51_66, r51_67, r51_69, r51_72, r51_74, r51_75, r51_76, r51_80, r51_81, r51_84, r51_85, r51_88, r51_89, r51_91, r51_94, r51_97, r51_100, r51_103, r51_104, r51_107, r51_110, am_gf_1_1, am_gf_0_0, am_nl_i, am_nl_r, am_nl_n, am_nl_l, Option.bind_some, Option.toList_some, Option.toList_none, List.cons_append, List.nil_append, if_true, if_false, Bool.false_eq_true, Int.reduceEq, Int.reduceAdd, ↓reduceIte, ni_le, hc, c_byteOf, c_padd hn (show n + i < 16 by omega), nI_1, hv]
    · rw [g4 j, am_up_ne (by decide), am_up_eq]
      unfold upd
      by_cases h : j = n + i
      · subst h
        rw [if_neg (by omega), if_pos rfl, if_pos (by omega), show n + i - n = i by omega]
      · rw [if_neg h]
        by_cases h2 : n + (i + 1) ≤ j ∧ j < n + q
        · rw [if_pos h2, if_pos (by omega)]
        · rw [if_neg h2, if_neg (by omega)]
def ltP (T : tS) (w : Int64) (j : Nat) : Int32 := if s_pl T ≤ j then nI (byN w (j - s_pl T)) else s_pg T j
def sp_letters (T : tS) (w : Int64) : Int32 × tS := if gdF w 8 = false then (-102, T) else if 16 < s_pl T + czN w 8 then (-104, T) else (nI (s_pl T + czN w 8), x_pl T (s_pl T + czN w 8) (ltP T w))
theorem c_letters {d : Nat} {σ : am_St} {τ : Int64} {T : tS} {w : Int64} (hR : RC σ T) (hW : WF T) : ∃ σ' : am_St, am_call (d + 1) 51 [.ref 0, .long w] σ τ = some (some (.int (sp_letters T w).1), σ', τ) ∧ RC σ' (sp_letters T w).2 ∧ ∀ c, 42 ≤ c → σ' c = σ c := by
  have hp := hR.2.2.2.1.1
  have h16 := hW.2.2.2.2.1
  have hz := czN_le w 8
  have beg : am_call (d + 1) 51 [.ref 0, .long w] σ τ = am_run (d + 1) 51 8 [.ref 0, .long w, .null, .int (nI (czN w 0)), .int 0, .int (nI 0), .null] [] σ τ := by
    show am_run (d + 1) 51 0 [.ref 0, .long w, .null, .null, .null, .null, .null] [] σ τ = _
    simp (disch := first | assumption | omega | rfl | exact Nat.le_of_ble_eq_true rfl | decide) only [r51_0, r51_1, r51_2, r51_3, r51_5, r51_6, r51_10, r51_12, r51_15, r51_16, r51_18, r51_21, r51_23, r51_25, r51_28, r51_29, r51_31, r51_34, r51_36, r51_39, r51_41, r51_43, r51_46, r51_48, r51_49, r51_52, r51_55, r51_58, r51_59, r51_62, r51_65, r51_66, r51_67, r51_69, r51_72, r51_74, r51_75, r51_76, r51_78, r51_80, r51_81, r51_84, r51_85, r51_88, r51_89, r51_91, r51_94, r51_97, r51_100, r51_103, r51_104, r51_107, r51_110, am_gf_1_1, am_gf_0_0, am_nl_i, am_nl_r, am_nl_n, am_nl_l, Option.bind_some, Option.toList_some, Option.toList_none, List.cons_append, List.nil_append, if_true, if_false, Bool.false_eq_true, Int.reduceEq, Int.reduceAdd, ↓reduceIte]
    rfl
  rw [beg]
  unfold sp_letters
  rcases c_letters_scan (d := d) (σ := σ) (τ := τ) (w := w) 8 0 0 .null rfl rfl (by simp [czN, cnt]) with ⟨hg, h1⟩ | ⟨hg, e', v6', h1⟩
  · rw [if_pos hg, h1]
    exact ⟨σ, rfl, hR, fun _ _ => rfl⟩
  · rw [if_neg (by rw [hg]; decide), h1]
    by_cases hf : 16 < s_pl T + czN w 8
    · rw [if_pos hf]
      refine ⟨σ, ?_, hR, fun _ _ => rfl⟩
      have hf2 : ¬ s_pl T + czN w 8 ≤ 16 := by omega
      rw [r51_58]
      simp (disch := first | assumption | omega | rfl | exact Nat.le_of_ble_eq_true rfl | decide) only [r51_0, r51_1, r51_2, r51_3, r51_5, r51_6, r51_8, r51_10, r51_12, r51_15, r51_16, r51_18, r51_21, r51_23, r51_25, r51_28, r51_29, r51_31, r51_34, r51_36, r51_39, r51_41, r51_43, r51_46, r51_48, r51_49, r51_52, r51_55, r51_59, r51_62, r51_65, r51_66, r51_67, r51_69, r51_72, r51_74, r51_75, r51_76, r51_78, r51_80, r51_81, r51_84, r51_85, r51_88, r51_89, r51_91, r51_94, r51_97, r51_100, r51_103, r51_104, r51_107, r51_110, am_gf_1_1, am_gf_0_0, am_nl_i, am_nl_r, am_nl_n, am_nl_l, Option.bind_some, Option.toList_some, Option.toList_none, List.cons_append, List.nil_append, if_true, if_false, Bool.false_eq_true, Int.reduceEq, Int.reduceAdd, ↓reduceIte, hp, nI_add, show (16 : Int32) = nI 16 from rfl, ni_le, hf2]
    · rw [if_neg hf]
      have hf2 : s_pl T + czN w 8 ≤ 16 := by omega
      obtain ⟨σ', g1, g2, g3, g4⟩ := c_letters_put (d := d) (n := s_pl T) (q := czN w 8) (τ := τ) (w := w) (v4 := .int e') (v6 := v6') rfl hz hf2 (czN w 8) 0 σ (by omega) hp
      refine ⟨σ', ?_, ?_, fun c hc => g2 c (by omega) (by omega)⟩
      · rw [r51_58]
        simp (disch := first | assumption | omega | rfl | exact Nat.le_of_ble_eq_true rfl | decide) only [r51_0, r51_1, r51_2, r51_3, r51_5, r51_6, r51_8, r51_10, r51_12, r51_15, r51_16, r51_18, r51_21, r51_23, r51_25, r51_28, r51_29, r51_31, r51_34, r51_36, r51_39, r51_41, r51_43, r51_46, r51_48, r51_49, r51_52, r51_55, r51_59, r51_62, r51_65, r51_66, r51_67, r51_69, r51_72, r51_74, r51_75, r51_76, r51_80, r51_81, r51_84, r51_85, r51_88, r51_89, r51_91, r51_94, r51_97, r51_100, r51_103, r51_104, r51_107, r51_110, am_gf_1_1, am_gf_0_0, am_nl_i, am_nl_r, am_nl_n, am_nl_l, Option.bind_some, Option.toList_some, Option.toList_none, List.cons_append, List.nil_append, if_true, if_false, Bool.false_eq_true, Int.reduceEq, Int.reduceAdd, ↓reduceIte, hp, nI_add, show (16 : Int32) = nI 16 from rfl, ni_le, hf2]
        exact g1
      · obtain ⟨r1, r2, r3, r4, r5, r6, r7⟩ := hR
        refine ⟨by rw [g2 4 (by decide) (by decide)]; exact r1, fun i hi => ?_, fun i hi => by rw [g2 3 (by decide) (by decide)]; exact r3 i hi, ⟨g3, fun j hj => ?_⟩, by rw [g2 0 (by decide) (by decide)]; exact r5, by rw [g2 0 (by decide) (by decide)]; exact r6, ?_⟩
        · rw [g2 5 (by decide) (by decide), g2 6 (by decide) (by decide), g2 7 (by decide) (by decide), g2 8 (by decide) (by decide), g2 9 (by decide) (by decide), g2 10 (by decide) (by decide), g2 11 (by decide) (by decide), g2 12 (by decide) (by decide), g2 13 (by decide) (by decide), g2 14 (by decide) (by decide), g2 16 (by decide) (by decide)]
          exact r2 i hi
        · have hj : j < s_pl T + czN w 8 := hj
          show σ' 2 j = ltP T w j
          rw [g4 j]
          unfold ltP
          by_cases h : s_pl T ≤ j
          · rw [if_pos h, if_pos ⟨h, hj⟩]
          · rw [if_neg h, if_neg (by omega)]
            exact r4.2 j (by omega)
        · rw [g2 38 (by decide) (by decide), g2 39 (by decide) (by decide), g2 40 (by decide) (by decide), g2 41 (by decide) (by decide)]
          exact r7
theorem WF.letters {T : tS} {w : Int64} (hW : WF T) : WF (sp_letters T w).2 := by
  unfold sp_letters
  split
  · exact hW
  · split
    · exact hW
    · rename_i h1 h2
      obtain ⟨w1, w2, w3, w4, w5, w6, w7⟩ := hW
      exact ⟨w1, w2, w3, w4, (by show s_pl T + czN w 8 ≤ 16; omega), w6, w7⟩
theorem WF.blank {T : tS} (hW : WF T) : WF (sp_blank T).2 := by
  obtain ⟨w1, w2, w3, w4, w5, w6, w7⟩ := hW
  exact ⟨w1, w2, w3, w4, Nat.zero_le 16, w6, w7⟩
theorem WF.write {T : tS} {p v : Int32} (hW : WF T) : WF (sp_write T p v).2 := by
  unfold sp_write
  cases idx (s_n T) p with
  | none => exact hW
  | some j =>
    dsimp only
    split
    · exact hW
    · exact hW
theorem WF.dies {T : tS} {p : Int32} (hW : WF T) : WF (sp_dies T p).2 := by
  unfold sp_dies
  cases idx (s_n T) p with
  | none => exact hW
  | some j =>
    dsimp only
    split
    · exact hW
    · obtain ⟨w1, w2, w3, w4, w5, w6, w7⟩ := hW
      refine ⟨w1, fun i hi => ?_, w3, w4, w5, w6, w7⟩
      obtain ⟨a, b, c, e, f⟩ := w2 i hi
      refine ⟨a, b, c, e, ?_⟩
      show upd (s_lv T) j 0 i = 0 ∨ upd (s_lv T) j 0 i = 1
      unfold upd
      split
      · exact Or.inl rfl
      · exact f
theorem WF.call {T : tS} {p v : Int32} (hW : WF T) : WF (sp_call T p v).2 := by
  unfold sp_call
  cases idx (s_n T) p with
  | none => exact hW
  | some j =>
    dsimp only
    split
    · exact hW
    · split
      · exact hW
      · exact hW
theorem WF.mended {T : tS} {x : Int32} (hW : WF T) : WF (sp_mended T x).2 := by
  unfold sp_mended
  split
  · exact hW
  · split
    · exact hW
    · obtain ⟨w1, w2, w3, w4, w5, w6, w7⟩ := hW
      exact ⟨w1, w2, w3, w4, w5, (by show s_md T + 1 ≤ 40; omega), w7⟩
