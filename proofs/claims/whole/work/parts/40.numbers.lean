/-! THE REFERENCE'S SMALL METHODS -/
theorem tmod_mod {a b : Int} (hb : 0 < b) : (if Int.tmod a b < 0 then Int.tmod a b + b else Int.tmod a b) = a % b := by
  rw [Int.tmod_eq_emod]
  have h1 := Int.emod_nonneg a (show b ≠ 0 by omega)
  have h2 := Int.emod_lt_of_pos a hb
  by_cases h : 0 ≤ a ∨ b ∣ a
  · rw [if_pos h]
    rw [if_neg (by omega)]
    omega
  · rw [if_neg h]
    have h3 : a % b ≠ 0 := fun q => h (Or.inr (Int.dvd_of_emod_eq_zero q))
    rw [if_pos (by omega)]
    omega
theorem fi {x z : Int} (h : x = z) : (.inl (some (vi x)) : Rs) = .inl (some (vi z)) := by rw [h]
/-- thrown() -/
theorem r_thrown {d : Nat} {σ : Sg} : Rn d 74 [vr 9 0] σ (.inl (some (vi (σ 9 0 0)))) σ := by
  refine Rn.of ?_
  rw [e74]
  simp (disch := omega) only [u74_0, u74_1, u74_4, o_9_0, fv_9_0_0, rf_9_0_0, fv_9_0_1, fv_9_0_2, fv_9_0_3, fv_9_0_4, fv_9_0_5, rf_9_0_5, fv_9_0_6, rf_9_0_6, fv_9_0_7, rf_9_0_7, fv_9_0_8, fv_9_0_9, fv_9_0_10, fv_9_0_11, fv_9_0_12, fv_9_0_13, fv_9_0_14, rf_9_0_14, fv_9_0_15, fv_9_0_16, fv_9_0_17, rf_9_0_17, fv_9_0_18, fv_9_0_19, fv_9_0_20, rf_9_0_20, fv_9_0_21, rf_9_0_21, fv_9_0_22, rf_9_0_22, fv_9_0_23, fv_9_0_24, fv_9_0_25, fv_9_0_26, fv_9_0_27, fv_9_0_28, fv_9_0_29, fv_9_0_30, fv_9_0_31, fv_9_0_32, rf_9_0_32, fv_9_0_33, fv_9_0_34, fv_9_0_35, fv_9_0_36, rf_9_0_36, fv_9_0_37, fv_9_0_38, fv_9_0_39, fv_9_0_40, fv_9_0_41, ia_9_1, is_9_1, ia_9_2, is_9_2, ia_9_3, is_9_3, ia_9_4, is_9_4, ia_9_5, is_9_5, ia_9_6, is_9_6, ia_9_7, is_9_7, ia_9_8, is_9_8, ia_9_9, is_9_9, ia_9_10, is_9_10, ia_9_11, is_9_11, ia_9_12, is_9_12, ia_9_13, is_9_13, ia_9_14, is_9_14, ia_9_15, is_9_15, ia_9_16, is_9_16, ia_9_17, is_9_17, ia_9_18, is_9_18, ia_9_19, is_9_19, ia_9_20, is_9_20, ia_9_21, is_9_21, ia_9_22, is_9_22, ia_9_24, is_9_24, ia_9_25, is_9_25, ia_9_26, is_9_26, ia_9_27, is_9_27, ia_9_28, is_9_28, ia_9_29, is_9_29, ia_9_30, is_9_30, ia_9_31, is_9_31, iz_9_23, Li_s, Lr_s, Ll_s, On_s, lget, lset, clr_i, clr_r, clr_n, Kc_i, Kc_v, Kc_x, true_and, and_true, List.length_cons, List.length_nil, nlg, isLn, List.all_cons, List.all_nil, Bool.and_true, Bool.not_false, Nat.zero_le, Nat.reduceAdd, Nat.reduceLeDiff]
/-- modulo(a, b) for b > 0 -/
theorem r_modulo {d : Nat} {σ : Sg} {a b : Int} (ha : -2147483648 ≤ a ∧ a ≤ 2147483647) (hb : 0 < b ∧ b ≤ 2147483647) : Rn d 75 [vr 9 0, vi a, vi b] σ (.inl (some (vi (a % b)))) σ := by
  have h1 := Int.emod_nonneg a (show b ≠ 0 by omega)
  have h2 := Int.emod_lt_of_pos a hb.1
  have h3 := tmod_mod (a := a) hb.1
  have h4 : -b ≤ Int.tmod a b ∧ Int.tmod a b < b := by
    by_cases h : Int.tmod a b < 0
    · rw [if_pos h] at h3
      omega
    · rw [if_neg h] at h3
      omega
  refine Rn.of ?_
  rw [e75, ← h3]
  simp (disch := omega) only [u75_0, u75_1, u75_2, u75_3, u75_4, u75_5, u75_8, u75_9, u75_10, u75_11, u75_14, u75_15, o_9_0, fv_9_0_0, rf_9_0_0, fv_9_0_1, fv_9_0_2, fv_9_0_3, fv_9_0_4, fv_9_0_5, rf_9_0_5, fv_9_0_6, rf_9_0_6, fv_9_0_7, rf_9_0_7, fv_9_0_8, fv_9_0_9, fv_9_0_10, fv_9_0_11, fv_9_0_12, fv_9_0_13, fv_9_0_14, rf_9_0_14, fv_9_0_15, fv_9_0_16, fv_9_0_17, rf_9_0_17, fv_9_0_18, fv_9_0_19, fv_9_0_20, rf_9_0_20, fv_9_0_21, rf_9_0_21, fv_9_0_22, rf_9_0_22, fv_9_0_23, fv_9_0_24, fv_9_0_25, fv_9_0_26, fv_9_0_27, fv_9_0_28, fv_9_0_29, fv_9_0_30, fv_9_0_31, fv_9_0_32, rf_9_0_32, fv_9_0_33, fv_9_0_34, fv_9_0_35, fv_9_0_36, rf_9_0_36, fv_9_0_37, fv_9_0_38, fv_9_0_39, fv_9_0_40, fv_9_0_41, ia_9_1, is_9_1, ia_9_2, is_9_2, ia_9_3, is_9_3, ia_9_4, is_9_4, ia_9_5, is_9_5, ia_9_6, is_9_6, ia_9_7, is_9_7, ia_9_8, is_9_8, ia_9_9, is_9_9, ia_9_10, is_9_10, ia_9_11, is_9_11, ia_9_12, is_9_12, ia_9_13, is_9_13, ia_9_14, is_9_14, ia_9_15, is_9_15, ia_9_16, is_9_16, ia_9_17, is_9_17, ia_9_18, is_9_18, ia_9_19, is_9_19, ia_9_20, is_9_20, ia_9_21, is_9_21, ia_9_22, is_9_22, ia_9_24, is_9_24, ia_9_25, is_9_25, ia_9_26, is_9_26, ia_9_27, is_9_27, ia_9_28, is_9_28, ia_9_29, is_9_29, ia_9_30, is_9_30, ia_9_31, is_9_31, iz_9_23, Li_s, Lr_s, Ll_s, On_s, lget, lset, clr_i, clr_r, clr_n, Kc_i, Kc_v, Kc_x, true_and, and_true, List.length_cons, List.length_nil, nlg, isLn, List.all_cons, List.all_nil, Bool.and_true, Bool.not_false, Nat.zero_le, Nat.reduceAdd, Nat.reduceLeDiff]
  split
  · exact fi (by rw [if_neg (by omega)])
  · exact fi (by rw [if_pos (by omega)])
/-- Math.floorMod(a, b) for b > 0 -/
theorem xor_neg {a b : Int} (ha : -2147483648 ≤ a ∧ a ≤ 2147483647) (hb : 0 < b ∧ b ≤ 2147483647) : (-2147483648 ≤ (i3 a ^^^ i3 b).toInt ∧ (i3 a ^^^ i3 b).toInt ≤ 2147483647) ∧ (0 ≤ (i3 a ^^^ i3 b).toInt ↔ 0 ≤ a) := by
  refine ⟨⟨Int32.le_toInt _, Int32.toInt_le _⟩, ?_⟩
  have h1 : ∀ x : Int32, 0 ≤ x.toInt ↔ x.toBitVec.msb = false := by
    intro x
    rw [← Int32.toInt_toBitVec, BitVec.toInt_eq_msb_cond]
    cases h : x.toBitVec.msb
    · simp
    · have := x.toBitVec.isLt
      simp
      omega
  rw [h1, show (i3 a ^^^ i3 b).toBitVec = (i3 a).toBitVec ^^^ (i3 b).toBitVec from rfl, BitVec.msb_xor]
  have hb1 : (i3 b).toBitVec.msb = false := (h1 _).mp (by rw [i3_I (by omega) hb.2]; omega)
  rw [hb1]
  have ha1 := h1 (i3 a)
  rw [i3_I ha.1 ha.2] at ha1
  rw [ha1]
  cases (i3 a).toBitVec.msb <;> simp
theorem r_floorMod {d : Nat} {σ : Sg} {a b : Int} (ha : -2147483648 ≤ a ∧ a ≤ 2147483647) (hb : 0 < b ∧ b ≤ 2147483647) : Rn d 128 [vi a, vi b] σ (.inl (some (vi (a % b)))) σ := by
  have h1 := Int.emod_nonneg a (show b ≠ 0 by omega)
  have h2 := Int.emod_lt_of_pos a hb.1
  have h3 := tmod_mod (a := a) hb.1
  have h4 : -b ≤ Int.tmod a b ∧ Int.tmod a b < b := by
    by_cases h : Int.tmod a b < 0
    · rw [if_pos h] at h3
      omega
    · rw [if_neg h] at h3
      omega
  have h5 : 0 ≤ a → 0 ≤ Int.tmod a b := fun h => Int.tmod_nonneg b h
  have h6 : a ≤ 0 → Int.tmod a b ≤ 0 := fun h => by
    have := Int.tmod_nonneg (a := -a) b (by omega)
    rw [Int.neg_tmod] at this
    omega
  obtain ⟨hx, hs⟩ := xor_neg ha hb
  refine Rn.of ?_
  rw [e128, ← h3]
  simp (disch := omega) only [u128_0, u128_1, u128_2, u128_3, u128_4, u128_5, u128_6, u128_7, u128_10, u128_11, u128_14, u128_15, u128_16, u128_17, u128_18, u128_19, Li_s, Lr_s, Ll_s, On_s, lget, lset, clr_i, clr_r, clr_n, Kc_i, Kc_v, Kc_x, true_and, and_true, List.length_cons, List.length_nil, nlg, isLn, List.all_cons, List.all_nil, Bool.and_true, Bool.not_false, Nat.zero_le, Nat.reduceAdd, Nat.reduceLeDiff]
  split
  · exact fi (by rw [if_neg (by omega)])
  · split
    · exact fi (by rw [if_neg (by omega)])
    · exact fi (by rw [if_pos (by omega)])
