/-! NUMBERS: an int by its number -/
theorem i3_add (a b : Int) : i3 a + i3 b = i3 (a + b) := (Int32.ofInt_add a b).symm
theorem i3_sub (a b : Int) : i3 a - i3 b = i3 (a - b) := (Int32.ofInt_sub a b).symm
theorem i3_mul (a b : Int) : i3 a * i3 b = i3 (a * b) := (Int32.ofInt_mul a b).symm
theorem i3_neg (a : Int) : -i3 a = i3 (-a) := (Int32.ofInt_neg a).symm
theorem i3_of (x : Int32) : i3 x.toInt = x := Int32.ofInt_toInt x
theorem i3_I {z : Int} (h1 : -2147483648 ≤ z) (h2 : z ≤ 2147483647) : (i3 z).toInt = z := Int32.toInt_ofInt_of_le (by omega) (by omega)
theorem i3_lt {a b : Int} (ha : -2147483648 ≤ a ∧ a ≤ 2147483647) (hb : -2147483648 ≤ b ∧ b ≤ 2147483647) : i3 a < i3 b ↔ a < b := by
  rw [Int32.lt_iff_toInt_lt, i3_I ha.1 ha.2, i3_I hb.1 hb.2]
theorem i3_le {a b : Int} (ha : -2147483648 ≤ a ∧ a ≤ 2147483647) (hb : -2147483648 ≤ b ∧ b ≤ 2147483647) : i3 a ≤ i3 b ↔ a ≤ b := by
  rw [Int32.le_iff_toInt_le, i3_I ha.1 ha.2, i3_I hb.1 hb.2]
theorem i3_eq {a b : Int} (ha : -2147483648 ≤ a ∧ a ≤ 2147483647) (hb : -2147483648 ≤ b ∧ b ≤ 2147483647) : i3 a = i3 b ↔ a = b := by
  rw [← Int32.toInt_inj, i3_I ha.1 ha.2, i3_I hb.1 hb.2]
theorem i3_0 : i3 0 = 0 := rfl
theorem i3_nI (n : Nat) : i3 (n : Int) = nI n := rfl
theorem rng_iff {z : Int} : rng z = true ↔ -2147483648 ≤ z ∧ z ≤ 2147483647 := by simp [rng]
theorem i3_in {z : Int} {n : Nat} (h0 : 0 ≤ z) (h1 : z < n) (hn : n < 2 ^ 31) : vp_in (i3 z) n ∧ (i3 z).toNatClampNeg = z.toNat := by
  obtain ⟨k, rfl⟩ := Int.eq_ofNat_of_zero_le h0
  have hk : k < n := by omega
  exact ⟨vp_in_nI hk hn, by rw [i3_nI, nI_clamp (by omega)]; rfl⟩
theorem i3_div {a b : Int} (ha : -2147483648 ≤ a ∧ a ≤ 2147483647) (h0 : 0 < b) (hb : b ≤ 2147483647) : i3 a / i3 b = i3 (Int.tdiv a b) := by
  have h1 : (i3 a).toInt = a := i3_I ha.1 ha.2
  have h2 : (i3 b).toInt = b := i3_I (by omega) hb
  apply Int32.toInt_inj.mp
  rw [Int32.toInt_div, h1, h2]
  show (Int.tdiv a b).bmod (2 ^ 32) = (Int32.ofInt (Int.tdiv a b)).toInt
  rw [Int32.toInt_ofInt]
theorem i3_ne0 {b : Int} (h0 : 0 < b) (hb : b ≤ 2147483647) : ¬ i3 b = 0 := by
  intro h
  have h2 : (i3 b).toInt = b := i3_I (by omega) hb
  rw [h] at h2
  have : (0 : Int32).toInt = 0 := rfl
  omega
theorem i3_rem {a b : Int} (ha : -2147483648 ≤ a ∧ a ≤ 2147483647) (h0 : 0 < b) (hb : b ≤ 2147483647) : i3 a - i3 a / i3 b * i3 b = i3 (Int.tmod a b) := by
  rw [i3_div ha h0 hb, i3_mul, i3_sub]
  rw [Int.tmod_def, Int.mul_comm]
theorem i6_add (a b : Int) : i6 a + i6 b = i6 (a + b) := (Int64.ofInt_add a b).symm
theorem i6_mul (a b : Int) : i6 a * i6 b = i6 (a * b) := (Int64.ofInt_mul a b).symm
theorem i3_i6 {a : Int} (ha : -2147483648 ≤ a ∧ a ≤ 2147483647) : (i3 a).toInt64 = i6 a := by
  apply Int64.toInt_inj.mp
  rw [Int32.toInt_toInt64, i3_I ha.1 ha.2]
  exact (Int64.toInt_ofInt_of_le (by omega) (by omega)).symm
theorem i6_i3 (a : Int) : (i6 a).toInt32 = i3 a := by
  apply Int32.toInt_inj.mp
  rw [Int64.toInt_toInt32]
  show (Int64.ofInt a).toInt.bmod (2 ^ 32) = (Int32.ofInt a).toInt
  rw [Int64.toInt_ofInt, Int32.toInt_ofInt]
  exact Int.bmod_bmod_of_dvd (by decide)
theorem bip_ok {n : Int} (h1 : -128 ≤ n) (h2 : n ≤ 127) : (Int8.ofInt n).toInt32 = i3 n := by
  apply Int32.toInt_inj.mp
  rw [Int8.toInt_toInt32, i3_I (by omega) (by omega)]
  exact Int8.toInt_ofInt_of_le (by omega) (by omega)
theorem sip_ok {n : Int} (h1 : -32768 ≤ n) (h2 : n ≤ 32767) : (Int16.ofInt n).toInt32 = i3 n := by
  apply Int32.toInt_inj.mp
  rw [Int16.toInt_toInt32, i3_I (by omega) (by omega)]
  exact Int16.toInt_ofInt_of_le (by omega) (by omega)
theorem i3_max {a b : Int} (ha : -2147483648 ≤ a ∧ a ≤ 2147483647) (hb : -2147483648 ≤ b ∧ b ≤ 2147483647) : (if i3 a < i3 b then i3 b else i3 a) = i3 (max a b) := by
  by_cases h : a < b
  · rw [if_pos ((i3_lt ha hb).mpr h), show max a b = b by omega]
  · rw [if_neg (fun q => h ((i3_lt ha hb).mp q)), show max a b = a by omega]
theorem i3_min {a b : Int} (ha : -2147483648 ≤ a ∧ a ≤ 2147483647) (hb : -2147483648 ≤ b ∧ b ≤ 2147483647) : (if i3 b < i3 a then i3 b else i3 a) = i3 (min a b) := by
  by_cases h : b < a
  · rw [if_pos ((i3_lt hb ha).mpr h), show min a b = b by omega]
  · rw [if_neg (fun q => h ((i3_lt hb ha).mp q)), show min a b = a by omega]
theorem i3_abs {a : Int} (ha : -2147483647 ≤ a ∧ a ≤ 2147483647) : (if 0 ≤ i3 a then i3 a else 0 - i3 a) = i3 (a.natAbs : Int) := by
  show (if i3 0 ≤ i3 a then i3 a else i3 0 - i3 a) = _
  by_cases h : 0 ≤ a
  · rw [if_pos (show i3 0 ≤ i3 a from (i3_le (by omega) (by omega)).mpr h), show (a.natAbs : Int) = a by omega]
  · rw [if_neg (fun q : i3 0 ≤ i3 a => h ((i3_le (by omega) (by omega)).mp q)), show (a.natAbs : Int) = 0 - a by omega]
    exact i3_sub 0 a
