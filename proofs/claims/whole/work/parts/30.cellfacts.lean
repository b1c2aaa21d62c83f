/-! WHAT THE CELLS ARE, as rows for simp -/
section CE
variable {σ : Sg} {c : Nat} {z : Int}
theorem o_c0 (h : c < 8) : isO c 0 3 ↔ True := ⟨fun _ => trivial, fun _ => ⟨if_pos h, inR_iff.mpr (by omega), if_pos h⟩⟩
theorem fv_c0_0 (h : c < 8) : fvv σ c 0 0 = vr c 1 := by unfold fvv rf; rw [if_pos h]; rfl
theorem fv_c0_1 (h : c < 8) : fvv σ c 0 1 = vr c 4 := by unfold fvv rf; rw [if_pos h]; rfl
theorem fv_c0_2 (h : c < 8) : fvv σ c 0 2 = vr c 7 := by unfold fvv rf; rw [if_pos h]; rfl
theorem fv_c0_3 (h : c < 8) : fvv σ c 0 3 = vr c 8 := by unfold fvv rf; rw [if_pos h]; rfl
theorem fv_c0_4 (h : c < 8) : fvv σ c 0 4 = vr c 9 := by unfold fvv rf; rw [if_pos h]; rfl
theorem fv_c0_5 (h : c < 8) : fvv σ c 0 5 = vr c 10 := by unfold fvv rf; rw [if_pos h]; rfl
theorem fv_c0_6 (h : c < 8) : fvv σ c 0 6 = vr c 11 := by unfold fvv rf; rw [if_pos h]; rfl
theorem fv_c0_7 (h : c < 8) : fvv σ c 0 7 = vi (σ c 0 7) := by unfold fvv rf; rw [if_pos h]; rfl
theorem rf_c0_7 (h : c < 8) : rf c 0 7 = none ↔ True := ⟨fun _ => trivial, fun _ => by unfold rf; rw [if_pos h]; rfl⟩
theorem fv_c0_8 (h : c < 8) : fvv σ c 0 8 = vi (σ c 0 8) := by unfold fvv rf; rw [if_pos h]; rfl
theorem rf_c0_8 (h : c < 8) : rf c 0 8 = none ↔ True := ⟨fun _ => trivial, fun _ => by unfold rf; rw [if_pos h]; rfl⟩
theorem fv_c0_9 (h : c < 8) : fvv σ c 0 9 = vi (σ c 0 9) := by unfold fvv rf; rw [if_pos h]; rfl
theorem rf_c0_9 (h : c < 8) : rf c 0 9 = none ↔ True := ⟨fun _ => trivial, fun _ => by unfold rf; rw [if_pos h]; rfl⟩
theorem fv_c0_10 (h : c < 8) : fvv σ c 0 10 = vi (σ c 0 10) := by unfold fvv rf; rw [if_pos h]; rfl
theorem rf_c0_10 (h : c < 8) : rf c 0 10 = none ↔ True := ⟨fun _ => trivial, fun _ => by unfold rf; rw [if_pos h]; rfl⟩
theorem fv_c0_11 (h : c < 8) : fvv σ c 0 11 = vi (σ c 0 11) := by unfold fvv rf; rw [if_pos h]; rfl
theorem rf_c0_11 (h : c < 8) : rf c 0 11 = none ↔ True := ⟨fun _ => trivial, fun _ => by unfold rf; rw [if_pos h]; rfl⟩
theorem fv_c0_12 (h : c < 8) : fvv σ c 0 12 = vi (σ c 0 12) := by unfold fvv rf; rw [if_pos h]; rfl
theorem rf_c0_12 (h : c < 8) : rf c 0 12 = none ↔ True := ⟨fun _ => trivial, fun _ => by unfold rf; rw [if_pos h]; rfl⟩
theorem fv_c0_13 (h : c < 8) : fvv σ c 0 13 = vi (σ c 0 13) := by unfold fvv rf; rw [if_pos h]; rfl
theorem rf_c0_13 (h : c < 8) : rf c 0 13 = none ↔ True := ⟨fun _ => trivial, fun _ => by unfold rf; rw [if_pos h]; rfl⟩
theorem fv_c0_14 (h : c < 8) : fvv σ c 0 14 = vi (σ c 0 14) := by unfold fvv rf; rw [if_pos h]; rfl
theorem rf_c0_14 (h : c < 8) : rf c 0 14 = none ↔ True := ⟨fun _ => trivial, fun _ => by unfold rf; rw [if_pos h]; rfl⟩
theorem fv_c0_15 (h : c < 8) : fvv σ c 0 15 = vi (σ c 0 15) := by unfold fvv rf; rw [if_pos h]; rfl
theorem rf_c0_15 (h : c < 8) : rf c 0 15 = none ↔ True := ⟨fun _ => trivial, fun _ => by unfold rf; rw [if_pos h]; rfl⟩
theorem fv_c0_16 (h : c < 8) : fvv σ c 0 16 = vi (σ c 0 16) := by unfold fvv rf; rw [if_pos h]; rfl
theorem rf_c0_16 (h : c < 8) : rf c 0 16 = none ↔ True := ⟨fun _ => trivial, fun _ => by unfold rf; rw [if_pos h]; rfl⟩
theorem fv_c0_17 (h : c < 8) : fvv σ c 0 17 = vi (σ c 0 17) := by unfold fvv rf; rw [if_pos h]; rfl
theorem rf_c0_17 (h : c < 8) : rf c 0 17 = none ↔ True := ⟨fun _ => trivial, fun _ => by unfold rf; rw [if_pos h]; rfl⟩
theorem o_c1 (h : c < 8) : isO c 1 2 ↔ True := ⟨fun _ => trivial, fun _ => ⟨if_pos h, inR_iff.mpr (by omega), if_pos h⟩⟩
theorem fv_c1_0 (h : c < 8) : fvv σ c 1 0 = vr c 2 := by unfold fvv rf; rw [if_pos h]; rfl
theorem fv_c1_1 (h : c < 8) : fvv σ c 1 1 = vr c 3 := by unfold fvv rf; rw [if_pos h]; rfl
theorem fv_c1_2 (h : c < 8) : fvv σ c 1 2 = vi (σ c 1 2) := by unfold fvv rf; rw [if_pos h]; rfl
theorem rf_c1_2 (h : c < 8) : rf c 1 2 = none ↔ True := ⟨fun _ => trivial, fun _ => by unfold rf; rw [if_pos h]; rfl⟩
theorem o_c4 (h : c < 8) : isO c 4 2 ↔ True := ⟨fun _ => trivial, fun _ => ⟨if_pos h, inR_iff.mpr (by omega), if_pos h⟩⟩
theorem fv_c4_0 (h : c < 8) : fvv σ c 4 0 = vr c 5 := by unfold fvv rf; rw [if_pos h]; rfl
theorem fv_c4_1 (h : c < 8) : fvv σ c 4 1 = vr c 6 := by unfold fvv rf; rw [if_pos h]; rfl
theorem fv_c4_2 (h : c < 8) : fvv σ c 4 2 = vi (σ c 4 2) := by unfold fvv rf; rw [if_pos h]; rfl
theorem rf_c4_2 (h : c < 8) : rf c 4 2 = none ↔ True := ⟨fun _ => trivial, fun _ => by unfold rf; rw [if_pos h]; rfl⟩
theorem ia_c2 (h : c < 8) (h0 : 0 ≤ z) (h1 : z < 3) : ial σ c 2 z = some (σ c 2 z.toNat) := by
  unfold ial
  rw [if_neg (by omega), if_neg (by omega), if_pos ⟨by unfold rt; rw [if_pos h]; rfl, inR_iff.mpr (by omega), h0, by unfold rn; rw [if_pos h]; exact h1⟩]
theorem is_c2 (h : c < 8) (h0 : 0 ≤ z) (h1 : z < 3) : isA c 2 0 z ↔ True := ⟨fun _ => trivial, fun _ => ⟨by unfold rt; rw [if_pos h]; rfl, inR_iff.mpr (by omega), h0, by unfold rn; rw [if_pos h]; exact h1⟩⟩
theorem ia_c3 (h : c < 8) (h0 : 0 ≤ z) (h1 : z < 3) : ial σ c 3 z = some (σ c 3 z.toNat) := by
  unfold ial
  rw [if_neg (by omega), if_neg (by omega), if_pos ⟨by unfold rt; rw [if_pos h]; rfl, inR_iff.mpr (by omega), h0, by unfold rn; rw [if_pos h]; exact h1⟩]
theorem is_c3 (h : c < 8) (h0 : 0 ≤ z) (h1 : z < 3) : isA c 3 0 z ↔ True := ⟨fun _ => trivial, fun _ => ⟨by unfold rt; rw [if_pos h]; rfl, inR_iff.mpr (by omega), h0, by unfold rn; rw [if_pos h]; exact h1⟩⟩
theorem ia_c5 (h : c < 8) (h0 : 0 ≤ z) (h1 : z < 3) : ial σ c 5 z = some (σ c 5 z.toNat) := by
  unfold ial
  rw [if_neg (by omega), if_neg (by omega), if_pos ⟨by unfold rt; rw [if_pos h]; rfl, inR_iff.mpr (by omega), h0, by unfold rn; rw [if_pos h]; exact h1⟩]
theorem is_c5 (h : c < 8) (h0 : 0 ≤ z) (h1 : z < 3) : isA c 5 0 z ↔ True := ⟨fun _ => trivial, fun _ => ⟨by unfold rt; rw [if_pos h]; rfl, inR_iff.mpr (by omega), h0, by unfold rn; rw [if_pos h]; exact h1⟩⟩
theorem ia_c6 (h : c < 8) (h0 : 0 ≤ z) (h1 : z < 3) : ial σ c 6 z = some (σ c 6 z.toNat) := by
  unfold ial
  rw [if_neg (by omega), if_neg (by omega), if_pos ⟨by unfold rt; rw [if_pos h]; rfl, inR_iff.mpr (by omega), h0, by unfold rn; rw [if_pos h]; exact h1⟩]
theorem is_c6 (h : c < 8) (h0 : 0 ≤ z) (h1 : z < 3) : isA c 6 0 z ↔ True := ⟨fun _ => trivial, fun _ => ⟨by unfold rt; rw [if_pos h]; rfl, inR_iff.mpr (by omega), h0, by unfold rn; rw [if_pos h]; exact h1⟩⟩
theorem ia_c7 (h : c < 8) (h0 : 0 ≤ z) (h1 : z < 4) : ial σ c 7 z = some (σ c 7 z.toNat) := by
  unfold ial
  rw [if_neg (by omega), if_neg (by omega), if_pos ⟨by unfold rt; rw [if_pos h]; rfl, inR_iff.mpr (by omega), h0, by unfold rn; rw [if_pos h]; exact h1⟩]
theorem is_c7 (h : c < 8) (h0 : 0 ≤ z) (h1 : z < 4) : isA c 7 0 z ↔ True := ⟨fun _ => trivial, fun _ => ⟨by unfold rt; rw [if_pos h]; rfl, inR_iff.mpr (by omega), h0, by unfold rn; rw [if_pos h]; exact h1⟩⟩
theorem ia_c8 (h : c < 8) (h0 : 0 ≤ z) (h1 : z < 4) : ial σ c 8 z = some (σ c 8 z.toNat) := by
  unfold ial
  rw [if_neg (by omega), if_neg (by omega), if_pos ⟨by unfold rt; rw [if_pos h]; rfl, inR_iff.mpr (by omega), h0, by unfold rn; rw [if_pos h]; exact h1⟩]
theorem is_c8 (h : c < 8) (h0 : 0 ≤ z) (h1 : z < 4) : isA c 8 0 z ↔ True := ⟨fun _ => trivial, fun _ => ⟨by unfold rt; rw [if_pos h]; rfl, inR_iff.mpr (by omega), h0, by unfold rn; rw [if_pos h]; exact h1⟩⟩
theorem ia_c9 (h : c < 8) (h0 : 0 ≤ z) (h1 : z < 12) : ial σ c 9 z = some (σ c 9 z.toNat) := by
  unfold ial
  rw [if_neg (by omega), if_neg (by omega), if_pos ⟨by unfold rt; rw [if_pos h]; rfl, inR_iff.mpr (by omega), h0, by unfold rn; rw [if_pos h]; exact h1⟩]
theorem is_c9 (h : c < 8) (h0 : 0 ≤ z) (h1 : z < 12) : isA c 9 0 z ↔ True := ⟨fun _ => trivial, fun _ => ⟨by unfold rt; rw [if_pos h]; rfl, inR_iff.mpr (by omega), h0, by unfold rn; rw [if_pos h]; exact h1⟩⟩
theorem ia_c10 (h : c < 8) (h0 : 0 ≤ z) (h1 : z < 192) : ial σ c 10 z = some (σ c 10 z.toNat) := by
  unfold ial
  rw [if_neg (by omega), if_neg (by omega), if_pos ⟨by unfold rt; rw [if_pos h]; rfl, inR_iff.mpr (by omega), h0, by unfold rn; rw [if_pos h]; exact h1⟩]
theorem is_c10 (h : c < 8) (h0 : 0 ≤ z) (h1 : z < 192) : isA c 10 0 z ↔ True := ⟨fun _ => trivial, fun _ => ⟨by unfold rt; rw [if_pos h]; rfl, inR_iff.mpr (by omega), h0, by unfold rn; rw [if_pos h]; exact h1⟩⟩
theorem ia_c11 (h : c < 8) (h0 : 0 ≤ z) (h1 : z < 3) : ial σ c 11 z = some (σ c 11 z.toNat) := by
  unfold ial
  rw [if_neg (by omega), if_neg (by omega), if_pos ⟨by unfold rt; rw [if_pos h]; rfl, inR_iff.mpr (by omega), h0, by unfold rn; rw [if_pos h]; exact h1⟩]
theorem is_c11 (h : c < 8) (h0 : 0 ≤ z) (h1 : z < 3) : isA c 11 0 z ↔ True := ⟨fun _ => trivial, fun _ => ⟨by unfold rt; rw [if_pos h]; rfl, inR_iff.mpr (by omega), h0, by unfold rn; rw [if_pos h]; exact h1⟩⟩
theorem o_8_0 : isO 8 0 0 ↔ True := ⟨fun _ => trivial, fun _ => ⟨rfl, inR_iff.mpr (by omega), rfl⟩⟩
theorem fv_8_0_0 : fvv σ 8 0 0 = vr 8 1 := rfl
theorem fv_8_0_1 : fvv σ 8 0 1 = vr 8 3 := rfl
theorem fv_8_0_2 : fvv σ 8 0 2 = vr 8 4 := rfl
theorem fv_8_0_3 : fvv σ 8 0 3 = vr 8 15 := rfl
theorem fv_8_0_4 : fvv σ 8 0 4 = vi (σ 8 0 4) := rfl
theorem rf_8_0_4 : rf 8 0 4 = none ↔ True := ⟨fun _ => trivial, fun _ => rfl⟩
theorem o_8_1 : isO 8 1 1 ↔ True := ⟨fun _ => trivial, fun _ => ⟨rfl, inR_iff.mpr (by omega), rfl⟩⟩
theorem fv_8_1_0 : fvv σ 8 1 0 = vr 8 2 := rfl
theorem fv_8_1_1 : fvv σ 8 1 1 = vi (σ 8 1 1) := rfl
theorem rf_8_1_1 : rf 8 1 1 = none ↔ True := ⟨fun _ => trivial, fun _ => rfl⟩
theorem o_8_4 : isO 8 4 5 ↔ True := ⟨fun _ => trivial, fun _ => ⟨rfl, inR_iff.mpr (by omega), rfl⟩⟩
theorem fv_8_4_0 : fvv σ 8 4 0 = vr 8 5 := rfl
theorem fv_8_4_1 : fvv σ 8 4 1 = vr 8 10 := rfl
theorem fv_8_4_2 : fvv σ 8 4 2 = vr 8 11 := rfl
theorem fv_8_4_3 : fvv σ 8 4 3 = vr 8 12 := rfl
theorem fv_8_4_4 : fvv σ 8 4 4 = vr 8 13 := rfl
theorem fv_8_4_5 : fvv σ 8 4 5 = vr 8 14 := rfl
theorem fv_8_4_6 : fvv σ 8 4 6 = vi (σ 8 4 6) := rfl
theorem rf_8_4_6 : rf 8 4 6 = none ↔ True := ⟨fun _ => trivial, fun _ => rfl⟩
theorem o_8_5 : isO 8 5 4 ↔ True := ⟨fun _ => trivial, fun _ => ⟨rfl, inR_iff.mpr (by omega), rfl⟩⟩
theorem fv_8_5_0 : fvv σ 8 5 0 = vr 8 6 := rfl
theorem fv_8_5_1 : fvv σ 8 5 1 = vr 8 7 := rfl
theorem fv_8_5_2 : fvv σ 8 5 2 = vr 8 8 := rfl
theorem fv_8_5_3 : fvv σ 8 5 3 = vr 8 9 := rfl
theorem fv_8_5_4 : fvv σ 8 5 4 = vi (σ 8 5 4) := rfl
theorem rf_8_5_4 : rf 8 5 4 = none ↔ True := ⟨fun _ => trivial, fun _ => rfl⟩
theorem fv_8_5_5 : fvv σ 8 5 5 = vi (σ 8 5 5) := rfl
theorem rf_8_5_5 : rf 8 5 5 = none ↔ True := ⟨fun _ => trivial, fun _ => rfl⟩
theorem o_8_15 : isO 8 15 6 ↔ True := ⟨fun _ => trivial, fun _ => ⟨rfl, inR_iff.mpr (by omega), rfl⟩⟩
theorem fv_8_15_0 : fvv σ 8 15 0 = vr 8 16 := rfl
theorem fv_8_15_1 : fvv σ 8 15 1 = vr 8 21 := rfl
theorem fv_8_15_2 : fvv σ 8 15 2 = vr 8 22 := rfl
theorem fv_8_15_3 : fvv σ 8 15 3 = vr 8 23 := rfl
theorem fv_8_15_4 : fvv σ 8 15 4 = vi (σ 8 15 4) := rfl
theorem rf_8_15_4 : rf 8 15 4 = none ↔ True := ⟨fun _ => trivial, fun _ => rfl⟩
theorem o_8_16 : isO 8 16 4 ↔ True := ⟨fun _ => trivial, fun _ => ⟨rfl, inR_iff.mpr (by omega), rfl⟩⟩
theorem fv_8_16_0 : fvv σ 8 16 0 = vr 8 17 := rfl
theorem fv_8_16_1 : fvv σ 8 16 1 = vr 8 18 := rfl
theorem fv_8_16_2 : fvv σ 8 16 2 = vr 8 19 := rfl
theorem fv_8_16_3 : fvv σ 8 16 3 = vr 8 20 := rfl
theorem fv_8_16_4 : fvv σ 8 16 4 = vi (σ 8 16 4) := rfl
theorem rf_8_16_4 : rf 8 16 4 = none ↔ True := ⟨fun _ => trivial, fun _ => rfl⟩
theorem fv_8_16_5 : fvv σ 8 16 5 = vi (σ 8 16 5) := rfl
theorem rf_8_16_5 : rf 8 16 5 = none ↔ True := ⟨fun _ => trivial, fun _ => rfl⟩
theorem o_9_0 : isO 9 0 7 ↔ True := ⟨fun _ => trivial, fun _ => ⟨rfl, inR_iff.mpr (by omega), rfl⟩⟩
theorem fv_9_0_0 : fvv σ 9 0 0 = vi (σ 9 0 0) := rfl
theorem rf_9_0_0 : rf 9 0 0 = none ↔ True := ⟨fun _ => trivial, fun _ => rfl⟩
theorem fv_9_0_1 : fvv σ 9 0 1 = vr 9 1 := rfl
theorem fv_9_0_2 : fvv σ 9 0 2 = vr 9 2 := rfl
theorem fv_9_0_3 : fvv σ 9 0 3 = vr 9 3 := rfl
theorem fv_9_0_4 : fvv σ 9 0 4 = vr 9 4 := rfl
theorem fv_9_0_5 : fvv σ 9 0 5 = vi (σ 9 0 5) := rfl
theorem rf_9_0_5 : rf 9 0 5 = none ↔ True := ⟨fun _ => trivial, fun _ => rfl⟩
theorem fv_9_0_6 : fvv σ 9 0 6 = vi (σ 9 0 6) := rfl
theorem rf_9_0_6 : rf 9 0 6 = none ↔ True := ⟨fun _ => trivial, fun _ => rfl⟩
theorem fv_9_0_7 : fvv σ 9 0 7 = vi (σ 9 0 7) := rfl
theorem rf_9_0_7 : rf 9 0 7 = none ↔ True := ⟨fun _ => trivial, fun _ => rfl⟩
theorem fv_9_0_8 : fvv σ 9 0 8 = vr 9 5 := rfl
theorem fv_9_0_9 : fvv σ 9 0 9 = vr 9 6 := rfl
theorem fv_9_0_10 : fvv σ 9 0 10 = vr 9 7 := rfl
theorem fv_9_0_11 : fvv σ 9 0 11 = vr 9 8 := rfl
theorem fv_9_0_12 : fvv σ 9 0 12 = vr 9 9 := rfl
theorem fv_9_0_13 : fvv σ 9 0 13 = vr 9 10 := rfl
theorem fv_9_0_14 : fvv σ 9 0 14 = vi (σ 9 0 14) := rfl
theorem rf_9_0_14 : rf 9 0 14 = none ↔ True := ⟨fun _ => trivial, fun _ => rfl⟩
theorem fv_9_0_15 : fvv σ 9 0 15 = vr 9 11 := rfl
theorem fv_9_0_16 : fvv σ 9 0 16 = vr 9 12 := rfl
theorem fv_9_0_17 : fvv σ 9 0 17 = vi (σ 9 0 17) := rfl
theorem rf_9_0_17 : rf 9 0 17 = none ↔ True := ⟨fun _ => trivial, fun _ => rfl⟩
theorem fv_9_0_18 : fvv σ 9 0 18 = vr 9 13 := rfl
theorem fv_9_0_19 : fvv σ 9 0 19 = vr 9 14 := rfl
theorem fv_9_0_20 : fvv σ 9 0 20 = vi (σ 9 0 20) := rfl
theorem rf_9_0_20 : rf 9 0 20 = none ↔ True := ⟨fun _ => trivial, fun _ => rfl⟩
theorem fv_9_0_21 : fvv σ 9 0 21 = vi (σ 9 0 21) := rfl
theorem rf_9_0_21 : rf 9 0 21 = none ↔ True := ⟨fun _ => trivial, fun _ => rfl⟩
theorem fv_9_0_22 : fvv σ 9 0 22 = vi (σ 9 0 22) := rfl
theorem rf_9_0_22 : rf 9 0 22 = none ↔ True := ⟨fun _ => trivial, fun _ => rfl⟩
theorem fv_9_0_23 : fvv σ 9 0 23 = vr 9 15 := rfl
theorem fv_9_0_24 : fvv σ 9 0 24 = vr 9 16 := rfl
theorem fv_9_0_25 : fvv σ 9 0 25 = vr 9 17 := rfl
theorem fv_9_0_26 : fvv σ 9 0 26 = vr 9 18 := rfl
theorem fv_9_0_27 : fvv σ 9 0 27 = vr 9 19 := rfl
theorem fv_9_0_28 : fvv σ 9 0 28 = vr 9 20 := rfl
theorem fv_9_0_29 : fvv σ 9 0 29 = vr 9 21 := rfl
theorem fv_9_0_30 : fvv σ 9 0 30 = vr 9 22 := rfl
theorem fv_9_0_31 : fvv σ 9 0 31 = vr 9 23 := rfl
theorem fv_9_0_32 : fvv σ 9 0 32 = vi (σ 9 0 32) := rfl
theorem rf_9_0_32 : rf 9 0 32 = none ↔ True := ⟨fun _ => trivial, fun _ => rfl⟩
theorem fv_9_0_33 : fvv σ 9 0 33 = vr 9 24 := rfl
theorem fv_9_0_34 : fvv σ 9 0 34 = vr 9 25 := rfl
theorem fv_9_0_35 : fvv σ 9 0 35 = vr 9 26 := rfl
theorem fv_9_0_36 : fvv σ 9 0 36 = vi (σ 9 0 36) := rfl
theorem rf_9_0_36 : rf 9 0 36 = none ↔ True := ⟨fun _ => trivial, fun _ => rfl⟩
theorem fv_9_0_37 : fvv σ 9 0 37 = vr 9 27 := rfl
theorem fv_9_0_38 : fvv σ 9 0 38 = vr 9 28 := rfl
theorem fv_9_0_39 : fvv σ 9 0 39 = vr 9 29 := rfl
theorem fv_9_0_40 : fvv σ 9 0 40 = vr 9 30 := rfl
theorem fv_9_0_41 : fvv σ 9 0 41 = vr 9 31 := rfl
theorem ia_8_2 (h0 : 0 ≤ z) (h1 : z < 7) : ial σ 8 2 z = some (σ 8 2 z.toNat) := by
  unfold ial
  rw [if_neg (by omega), if_neg (by omega), if_pos ⟨rfl, inR_iff.mpr (by omega), h0, h1⟩]
theorem is_8_2 (h0 : 0 ≤ z) (h1 : z < 7) : isA 8 2 0 z ↔ True := ⟨fun _ => trivial, fun _ => ⟨rfl, inR_iff.mpr (by omega), h0, h1⟩⟩
theorem ia_8_6 (h0 : 0 ≤ z) (h1 : z < 4) : ial σ 8 6 z = some (σ 8 6 z.toNat) := by
  unfold ial
  rw [if_neg (by omega), if_neg (by omega), if_pos ⟨rfl, inR_iff.mpr (by omega), h0, h1⟩]
theorem is_8_6 (h0 : 0 ≤ z) (h1 : z < 4) : isA 8 6 0 z ↔ True := ⟨fun _ => trivial, fun _ => ⟨rfl, inR_iff.mpr (by omega), h0, h1⟩⟩
theorem ia_8_7 (h0 : 0 ≤ z) (h1 : z < 4) : ial σ 8 7 z = some (σ 8 7 z.toNat) := by
  unfold ial
  rw [if_neg (by omega), if_neg (by omega), if_pos ⟨rfl, inR_iff.mpr (by omega), h0, h1⟩]
theorem is_8_7 (h0 : 0 ≤ z) (h1 : z < 4) : isA 8 7 0 z ↔ True := ⟨fun _ => trivial, fun _ => ⟨rfl, inR_iff.mpr (by omega), h0, h1⟩⟩
theorem ia_8_8 (h0 : 0 ≤ z) (h1 : z < 4) : ial σ 8 8 z = some (σ 8 8 z.toNat) := by
  unfold ial
  rw [if_neg (by omega), if_neg (by omega), if_pos ⟨rfl, inR_iff.mpr (by omega), h0, h1⟩]
theorem is_8_8 (h0 : 0 ≤ z) (h1 : z < 4) : isA 8 8 0 z ↔ True := ⟨fun _ => trivial, fun _ => ⟨rfl, inR_iff.mpr (by omega), h0, h1⟩⟩
theorem ia_8_9 (h0 : 0 ≤ z) (h1 : z < 4) : ial σ 8 9 z = some (σ 8 9 z.toNat) := by
  unfold ial
  rw [if_neg (by omega), if_neg (by omega), if_pos ⟨rfl, inR_iff.mpr (by omega), h0, h1⟩]
theorem is_8_9 (h0 : 0 ≤ z) (h1 : z < 4) : isA 8 9 0 z ↔ True := ⟨fun _ => trivial, fun _ => ⟨rfl, inR_iff.mpr (by omega), h0, h1⟩⟩
theorem ia_8_14 (h0 : 0 ≤ z) (h1 : z < 8) : ial σ 8 14 z = some (σ 8 14 z.toNat) := by
  unfold ial
  rw [if_neg (by omega), if_neg (by omega), if_pos ⟨rfl, inR_iff.mpr (by omega), h0, h1⟩]
theorem is_8_14 (h0 : 0 ≤ z) (h1 : z < 8) : isA 8 14 0 z ↔ True := ⟨fun _ => trivial, fun _ => ⟨rfl, inR_iff.mpr (by omega), h0, h1⟩⟩
theorem ia_8_17 (h0 : 0 ≤ z) (h1 : z < 4) : ial σ 8 17 z = some (σ 8 17 z.toNat) := by
  unfold ial
  rw [if_neg (by omega), if_neg (by omega), if_pos ⟨rfl, inR_iff.mpr (by omega), h0, h1⟩]
theorem is_8_17 (h0 : 0 ≤ z) (h1 : z < 4) : isA 8 17 0 z ↔ True := ⟨fun _ => trivial, fun _ => ⟨rfl, inR_iff.mpr (by omega), h0, h1⟩⟩
theorem ia_8_18 (h0 : 0 ≤ z) (h1 : z < 4) : ial σ 8 18 z = some (σ 8 18 z.toNat) := by
  unfold ial
  rw [if_neg (by omega), if_neg (by omega), if_pos ⟨rfl, inR_iff.mpr (by omega), h0, h1⟩]
theorem is_8_18 (h0 : 0 ≤ z) (h1 : z < 4) : isA 8 18 0 z ↔ True := ⟨fun _ => trivial, fun _ => ⟨rfl, inR_iff.mpr (by omega), h0, h1⟩⟩
theorem ia_8_19 (h0 : 0 ≤ z) (h1 : z < 4) : ial σ 8 19 z = some (σ 8 19 z.toNat) := by
  unfold ial
  rw [if_neg (by omega), if_neg (by omega), if_pos ⟨rfl, inR_iff.mpr (by omega), h0, h1⟩]
theorem is_8_19 (h0 : 0 ≤ z) (h1 : z < 4) : isA 8 19 0 z ↔ True := ⟨fun _ => trivial, fun _ => ⟨rfl, inR_iff.mpr (by omega), h0, h1⟩⟩
theorem ia_8_20 (h0 : 0 ≤ z) (h1 : z < 4) : ial σ 8 20 z = some (σ 8 20 z.toNat) := by
  unfold ial
  rw [if_neg (by omega), if_neg (by omega), if_pos ⟨rfl, inR_iff.mpr (by omega), h0, h1⟩]
theorem is_8_20 (h0 : 0 ≤ z) (h1 : z < 4) : isA 8 20 0 z ↔ True := ⟨fun _ => trivial, fun _ => ⟨rfl, inR_iff.mpr (by omega), h0, h1⟩⟩
theorem ia_8_21 (h0 : 0 ≤ z) (h1 : z < 240) : ial σ 8 21 z = some (σ 8 21 z.toNat) := by
  unfold ial
  rw [if_neg (by omega), if_neg (by omega), if_pos ⟨rfl, inR_iff.mpr (by omega), h0, h1⟩]
theorem is_8_21 (h0 : 0 ≤ z) (h1 : z < 240) : isA 8 21 0 z ↔ True := ⟨fun _ => trivial, fun _ => ⟨rfl, inR_iff.mpr (by omega), h0, h1⟩⟩
theorem ia_8_22 (h0 : 0 ≤ z) (h1 : z < 240) : ial σ 8 22 z = some (σ 8 22 z.toNat) := by
  unfold ial
  rw [if_neg (by omega), if_neg (by omega), if_pos ⟨rfl, inR_iff.mpr (by omega), h0, h1⟩]
theorem is_8_22 (h0 : 0 ≤ z) (h1 : z < 240) : isA 8 22 0 z ↔ True := ⟨fun _ => trivial, fun _ => ⟨rfl, inR_iff.mpr (by omega), h0, h1⟩⟩
theorem ia_8_23 (h0 : 0 ≤ z) (h1 : z < 240) : ial σ 8 23 z = some (σ 8 23 z.toNat) := by
  unfold ial
  rw [if_neg (by omega), if_neg (by omega), if_pos ⟨rfl, inR_iff.mpr (by omega), h0, h1⟩]
theorem is_8_23 (h0 : 0 ≤ z) (h1 : z < 240) : isA 8 23 0 z ↔ True := ⟨fun _ => trivial, fun _ => ⟨rfl, inR_iff.mpr (by omega), h0, h1⟩⟩
theorem ia_9_1 (h0 : 0 ≤ z) (h1 : z < 7) : ial σ 9 1 z = some (σ 9 1 z.toNat) := by
  unfold ial
  rw [if_neg (by omega), if_neg (by omega), if_pos ⟨rfl, inR_iff.mpr (by omega), h0, h1⟩]
theorem is_9_1 (h0 : 0 ≤ z) (h1 : z < 7) : isA 9 1 0 z ↔ True := ⟨fun _ => trivial, fun _ => ⟨rfl, inR_iff.mpr (by omega), h0, h1⟩⟩
theorem ia_9_2 (h0 : 0 ≤ z) (h1 : z < 7) : ial σ 9 2 z = some (σ 9 2 z.toNat) := by
  unfold ial
  rw [if_neg (by omega), if_neg (by omega), if_pos ⟨rfl, inR_iff.mpr (by omega), h0, h1⟩]
theorem is_9_2 (h0 : 0 ≤ z) (h1 : z < 7) : isA 9 2 0 z ↔ True := ⟨fun _ => trivial, fun _ => ⟨rfl, inR_iff.mpr (by omega), h0, h1⟩⟩
theorem ia_9_3 (h0 : 0 ≤ z) (h1 : z < 3) : ial σ 9 3 z = some (σ 9 3 z.toNat) := by
  unfold ial
  rw [if_neg (by omega), if_neg (by omega), if_pos ⟨rfl, inR_iff.mpr (by omega), h0, h1⟩]
theorem is_9_3 (h0 : 0 ≤ z) (h1 : z < 3) : isA 9 3 0 z ↔ True := ⟨fun _ => trivial, fun _ => ⟨rfl, inR_iff.mpr (by omega), h0, h1⟩⟩
theorem ia_9_4 (h0 : 0 ≤ z) (h1 : z < 3) : ial σ 9 4 z = some (σ 9 4 z.toNat) := by
  unfold ial
  rw [if_neg (by omega), if_neg (by omega), if_pos ⟨rfl, inR_iff.mpr (by omega), h0, h1⟩]
theorem is_9_4 (h0 : 0 ≤ z) (h1 : z < 3) : isA 9 4 0 z ↔ True := ⟨fun _ => trivial, fun _ => ⟨rfl, inR_iff.mpr (by omega), h0, h1⟩⟩
theorem ia_9_5 (h0 : 0 ≤ z) (h1 : z < 8) : ial σ 9 5 z = some (σ 9 5 z.toNat) := by
  unfold ial
  rw [if_neg (by omega), if_neg (by omega), if_pos ⟨rfl, inR_iff.mpr (by omega), h0, h1⟩]
theorem is_9_5 (h0 : 0 ≤ z) (h1 : z < 8) : isA 9 5 0 z ↔ True := ⟨fun _ => trivial, fun _ => ⟨rfl, inR_iff.mpr (by omega), h0, h1⟩⟩
theorem ia_9_6 (h0 : 0 ≤ z) (h1 : z < 8) : ial σ 9 6 z = some (σ 9 6 z.toNat) := by
  unfold ial
  rw [if_neg (by omega), if_neg (by omega), if_pos ⟨rfl, inR_iff.mpr (by omega), h0, h1⟩]
theorem is_9_6 (h0 : 0 ≤ z) (h1 : z < 8) : isA 9 6 0 z ↔ True := ⟨fun _ => trivial, fun _ => ⟨rfl, inR_iff.mpr (by omega), h0, h1⟩⟩
theorem ia_9_7 (h0 : 0 ≤ z) (h1 : z < 8) : ial σ 9 7 z = some (σ 9 7 z.toNat) := by
  unfold ial
  rw [if_neg (by omega), if_neg (by omega), if_pos ⟨rfl, inR_iff.mpr (by omega), h0, h1⟩]
theorem is_9_7 (h0 : 0 ≤ z) (h1 : z < 8) : isA 9 7 0 z ↔ True := ⟨fun _ => trivial, fun _ => ⟨rfl, inR_iff.mpr (by omega), h0, h1⟩⟩
theorem ia_9_8 (h0 : 0 ≤ z) (h1 : z < 8) : ial σ 9 8 z = some (σ 9 8 z.toNat) := by
  unfold ial
  rw [if_neg (by omega), if_neg (by omega), if_pos ⟨rfl, inR_iff.mpr (by omega), h0, h1⟩]
theorem is_9_8 (h0 : 0 ≤ z) (h1 : z < 8) : isA 9 8 0 z ↔ True := ⟨fun _ => trivial, fun _ => ⟨rfl, inR_iff.mpr (by omega), h0, h1⟩⟩
theorem ia_9_9 (h0 : 0 ≤ z) (h1 : z < 24) : ial σ 9 9 z = some (σ 9 9 z.toNat) := by
  unfold ial
  rw [if_neg (by omega), if_neg (by omega), if_pos ⟨rfl, inR_iff.mpr (by omega), h0, h1⟩]
theorem is_9_9 (h0 : 0 ≤ z) (h1 : z < 24) : isA 9 9 0 z ↔ True := ⟨fun _ => trivial, fun _ => ⟨rfl, inR_iff.mpr (by omega), h0, h1⟩⟩
theorem ia_9_10 (h0 : 0 ≤ z) (h1 : z < 24) : ial σ 9 10 z = some (σ 9 10 z.toNat) := by
  unfold ial
  rw [if_neg (by omega), if_neg (by omega), if_pos ⟨rfl, inR_iff.mpr (by omega), h0, h1⟩]
theorem is_9_10 (h0 : 0 ≤ z) (h1 : z < 24) : isA 9 10 0 z ↔ True := ⟨fun _ => trivial, fun _ => ⟨rfl, inR_iff.mpr (by omega), h0, h1⟩⟩
theorem ia_9_11 (h0 : 0 ≤ z) (h1 : z < 4) : ial σ 9 11 z = some (σ 9 11 z.toNat) := by
  unfold ial
  rw [if_neg (by omega), if_neg (by omega), if_pos ⟨rfl, inR_iff.mpr (by omega), h0, h1⟩]
theorem is_9_11 (h0 : 0 ≤ z) (h1 : z < 4) : isA 9 11 0 z ↔ True := ⟨fun _ => trivial, fun _ => ⟨rfl, inR_iff.mpr (by omega), h0, h1⟩⟩
theorem ia_9_12 (h0 : 0 ≤ z) (h1 : z < 4) : ial σ 9 12 z = some (σ 9 12 z.toNat) := by
  unfold ial
  rw [if_neg (by omega), if_neg (by omega), if_pos ⟨rfl, inR_iff.mpr (by omega), h0, h1⟩]
theorem is_9_12 (h0 : 0 ≤ z) (h1 : z < 4) : isA 9 12 0 z ↔ True := ⟨fun _ => trivial, fun _ => ⟨rfl, inR_iff.mpr (by omega), h0, h1⟩⟩
theorem ia_9_13 (h0 : 0 ≤ z) (h1 : z < 4) : ial σ 9 13 z = some (σ 9 13 z.toNat) := by
  unfold ial
  rw [if_neg (by omega), if_neg (by omega), if_pos ⟨rfl, inR_iff.mpr (by omega), h0, h1⟩]
theorem is_9_13 (h0 : 0 ≤ z) (h1 : z < 4) : isA 9 13 0 z ↔ True := ⟨fun _ => trivial, fun _ => ⟨rfl, inR_iff.mpr (by omega), h0, h1⟩⟩
theorem ia_9_14 (h0 : 0 ≤ z) (h1 : z < 4) : ial σ 9 14 z = some (σ 9 14 z.toNat) := by
  unfold ial
  rw [if_neg (by omega), if_neg (by omega), if_pos ⟨rfl, inR_iff.mpr (by omega), h0, h1⟩]
theorem is_9_14 (h0 : 0 ≤ z) (h1 : z < 4) : isA 9 14 0 z ↔ True := ⟨fun _ => trivial, fun _ => ⟨rfl, inR_iff.mpr (by omega), h0, h1⟩⟩
theorem ia_9_15 (h0 : 0 ≤ z) (h1 : z < 96) : ial σ 9 15 z = some (σ 9 15 z.toNat) := by
  unfold ial
  rw [if_neg (by omega), if_neg (by omega), if_pos ⟨rfl, inR_iff.mpr (by omega), h0, h1⟩]
theorem is_9_15 (h0 : 0 ≤ z) (h1 : z < 96) : isA 9 15 0 z ↔ True := ⟨fun _ => trivial, fun _ => ⟨rfl, inR_iff.mpr (by omega), h0, h1⟩⟩
theorem ia_9_16 (h0 : 0 ≤ z) (h1 : z < 8) : ial σ 9 16 z = some (σ 9 16 z.toNat) := by
  unfold ial
  rw [if_neg (by omega), if_neg (by omega), if_pos ⟨rfl, inR_iff.mpr (by omega), h0, h1⟩]
theorem is_9_16 (h0 : 0 ≤ z) (h1 : z < 8) : isA 9 16 0 z ↔ True := ⟨fun _ => trivial, fun _ => ⟨rfl, inR_iff.mpr (by omega), h0, h1⟩⟩
theorem ia_9_17 (h0 : 0 ≤ z) (h1 : z < 8) : ial σ 9 17 z = some (σ 9 17 z.toNat) := by
  unfold ial
  rw [if_neg (by omega), if_neg (by omega), if_pos ⟨rfl, inR_iff.mpr (by omega), h0, h1⟩]
theorem is_9_17 (h0 : 0 ≤ z) (h1 : z < 8) : isA 9 17 0 z ↔ True := ⟨fun _ => trivial, fun _ => ⟨rfl, inR_iff.mpr (by omega), h0, h1⟩⟩
theorem ia_9_18 (h0 : 0 ≤ z) (h1 : z < 8) : ial σ 9 18 z = some (σ 9 18 z.toNat) := by
  unfold ial
  rw [if_neg (by omega), if_neg (by omega), if_pos ⟨rfl, inR_iff.mpr (by omega), h0, h1⟩]
theorem is_9_18 (h0 : 0 ≤ z) (h1 : z < 8) : isA 9 18 0 z ↔ True := ⟨fun _ => trivial, fun _ => ⟨rfl, inR_iff.mpr (by omega), h0, h1⟩⟩
theorem ia_9_19 (h0 : 0 ≤ z) (h1 : z < 3200) : ial σ 9 19 z = some (σ 9 19 z.toNat) := by
  unfold ial
  rw [if_neg (by omega), if_neg (by omega), if_pos ⟨rfl, inR_iff.mpr (by omega), h0, h1⟩]
theorem is_9_19 (h0 : 0 ≤ z) (h1 : z < 3200) : isA 9 19 0 z ↔ True := ⟨fun _ => trivial, fun _ => ⟨rfl, inR_iff.mpr (by omega), h0, h1⟩⟩
theorem ia_9_20 (h0 : 0 ≤ z) (h1 : z < 3200) : ial σ 9 20 z = some (σ 9 20 z.toNat) := by
  unfold ial
  rw [if_neg (by omega), if_neg (by omega), if_pos ⟨rfl, inR_iff.mpr (by omega), h0, h1⟩]
theorem is_9_20 (h0 : 0 ≤ z) (h1 : z < 3200) : isA 9 20 0 z ↔ True := ⟨fun _ => trivial, fun _ => ⟨rfl, inR_iff.mpr (by omega), h0, h1⟩⟩
theorem ia_9_21 (h0 : 0 ≤ z) (h1 : z < 3200) : ial σ 9 21 z = some (σ 9 21 z.toNat) := by
  unfold ial
  rw [if_neg (by omega), if_neg (by omega), if_pos ⟨rfl, inR_iff.mpr (by omega), h0, h1⟩]
theorem is_9_21 (h0 : 0 ≤ z) (h1 : z < 3200) : isA 9 21 0 z ↔ True := ⟨fun _ => trivial, fun _ => ⟨rfl, inR_iff.mpr (by omega), h0, h1⟩⟩
theorem ia_9_22 (h0 : 0 ≤ z) (h1 : z < 3200) : ial σ 9 22 z = some (σ 9 22 z.toNat) := by
  unfold ial
  rw [if_neg (by omega), if_neg (by omega), if_pos ⟨rfl, inR_iff.mpr (by omega), h0, h1⟩]
theorem is_9_22 (h0 : 0 ≤ z) (h1 : z < 3200) : isA 9 22 0 z ↔ True := ⟨fun _ => trivial, fun _ => ⟨rfl, inR_iff.mpr (by omega), h0, h1⟩⟩
theorem ia_9_24 (h0 : 0 ≤ z) (h1 : z < 32) : ial σ 9 24 z = some (σ 9 24 z.toNat) := by
  unfold ial
  rw [if_neg (by omega), if_neg (by omega), if_pos ⟨rfl, inR_iff.mpr (by omega), h0, h1⟩]
theorem is_9_24 (h0 : 0 ≤ z) (h1 : z < 32) : isA 9 24 0 z ↔ True := ⟨fun _ => trivial, fun _ => ⟨rfl, inR_iff.mpr (by omega), h0, h1⟩⟩
theorem ia_9_25 (h0 : 0 ≤ z) (h1 : z < 8) : ial σ 9 25 z = some (σ 9 25 z.toNat) := by
  unfold ial
  rw [if_neg (by omega), if_neg (by omega), if_pos ⟨rfl, inR_iff.mpr (by omega), h0, h1⟩]
theorem is_9_25 (h0 : 0 ≤ z) (h1 : z < 8) : isA 9 25 0 z ↔ True := ⟨fun _ => trivial, fun _ => ⟨rfl, inR_iff.mpr (by omega), h0, h1⟩⟩
theorem ia_9_26 (h0 : 0 ≤ z) (h1 : z < 24) : ial σ 9 26 z = some (σ 9 26 z.toNat) := by
  unfold ial
  rw [if_neg (by omega), if_neg (by omega), if_pos ⟨rfl, inR_iff.mpr (by omega), h0, h1⟩]
theorem is_9_26 (h0 : 0 ≤ z) (h1 : z < 24) : isA 9 26 0 z ↔ True := ⟨fun _ => trivial, fun _ => ⟨rfl, inR_iff.mpr (by omega), h0, h1⟩⟩
theorem ia_9_27 (h0 : 0 ≤ z) (h1 : z < 300) : ial σ 9 27 z = some (σ 9 27 z.toNat) := by
  unfold ial
  rw [if_neg (by omega), if_neg (by omega), if_pos ⟨rfl, inR_iff.mpr (by omega), h0, h1⟩]
theorem is_9_27 (h0 : 0 ≤ z) (h1 : z < 300) : isA 9 27 0 z ↔ True := ⟨fun _ => trivial, fun _ => ⟨rfl, inR_iff.mpr (by omega), h0, h1⟩⟩
theorem ia_9_28 (h0 : 0 ≤ z) (h1 : z < 300) : ial σ 9 28 z = some (σ 9 28 z.toNat) := by
  unfold ial
  rw [if_neg (by omega), if_neg (by omega), if_pos ⟨rfl, inR_iff.mpr (by omega), h0, h1⟩]
theorem is_9_28 (h0 : 0 ≤ z) (h1 : z < 300) : isA 9 28 0 z ↔ True := ⟨fun _ => trivial, fun _ => ⟨rfl, inR_iff.mpr (by omega), h0, h1⟩⟩
theorem ia_9_29 (h0 : 0 ≤ z) (h1 : z < 300) : ial σ 9 29 z = some (σ 9 29 z.toNat) := by
  unfold ial
  rw [if_neg (by omega), if_neg (by omega), if_pos ⟨rfl, inR_iff.mpr (by omega), h0, h1⟩]
theorem is_9_29 (h0 : 0 ≤ z) (h1 : z < 300) : isA 9 29 0 z ↔ True := ⟨fun _ => trivial, fun _ => ⟨rfl, inR_iff.mpr (by omega), h0, h1⟩⟩
theorem ia_9_30 (h0 : 0 ≤ z) (h1 : z < 4) : ial σ 9 30 z = some (σ 9 30 z.toNat) := by
  unfold ial
  rw [if_neg (by omega), if_neg (by omega), if_pos ⟨rfl, inR_iff.mpr (by omega), h0, h1⟩]
theorem is_9_30 (h0 : 0 ≤ z) (h1 : z < 4) : isA 9 30 0 z ↔ True := ⟨fun _ => trivial, fun _ => ⟨rfl, inR_iff.mpr (by omega), h0, h1⟩⟩
theorem ia_9_31 (h0 : 0 ≤ z) (h1 : z < 4) : ial σ 9 31 z = some (σ 9 31 z.toNat) := by
  unfold ial
  rw [if_neg (by omega), if_neg (by omega), if_pos ⟨rfl, inR_iff.mpr (by omega), h0, h1⟩]
theorem is_9_31 (h0 : 0 ≤ z) (h1 : z < 4) : isA 9 31 0 z ↔ True := ⟨fun _ => trivial, fun _ => ⟨rfl, inR_iff.mpr (by omega), h0, h1⟩⟩
theorem ia_10 (h : c < 8) (h0 : 0 ≤ z) (h1 : z < 64) : ial σ 10 c z = some (σ 10 c z.toNat) := by
  unfold ial
  rw [if_neg (by omega), if_neg (by omega), if_pos ⟨rfl, inR_iff.mpr (by omega), h0, h1⟩]
theorem is_10 (h : c < 8) (h0 : 0 ≤ z) (h1 : z < 64) : isA 10 c 0 z ↔ True := ⟨fun _ => trivial, fun _ => ⟨rfl, inR_iff.mpr (by omega), h0, h1⟩⟩
theorem ia_11 (h : c < 8) (h0 : 0 ≤ z) (h1 : z < 64) : ial σ 11 c z = some (σ 11 c z.toNat) := by
  unfold ial
  rw [if_neg (by omega), if_neg (by omega), if_pos ⟨rfl, inR_iff.mpr (by omega), h0, h1⟩]
theorem is_11 (h : c < 8) (h0 : 0 ≤ z) (h1 : z < 64) : isA 11 c 0 z ↔ True := ⟨fun _ => trivial, fun _ => ⟨rfl, inR_iff.mpr (by omega), h0, h1⟩⟩
theorem iz_8_12 (h0 : 0 ≤ z) (h1 : z < 64) : isA 8 12 1 z ↔ True := ⟨fun _ => trivial, fun _ => ⟨rfl, inR_iff.mpr (by omega), h0, h1⟩⟩
theorem iz_8_13 (h0 : 0 ≤ z) (h1 : z < 64) : isA 8 13 1 z ↔ True := ⟨fun _ => trivial, fun _ => ⟨rfl, inR_iff.mpr (by omega), h0, h1⟩⟩
theorem iz_9_23 (h0 : 0 ≤ z) (h1 : z < 3200) : isA 9 23 1 z ↔ True := ⟨fun _ => trivial, fun _ => ⟨rfl, inR_iff.mpr (by omega), h0, h1⟩⟩
theorem aa_3 (h0 : 0 ≤ z) (h1 : z < 8) : (isA 8 3 2 z ∨ isA 8 3 3 z) ↔ True := ⟨fun _ => trivial, fun _ => Or.inl ⟨rfl, inR_iff.mpr (by omega), h0, h1⟩⟩
theorem ar_3 {k : Nat} : rf 8 3 k = some (k, 0) := rfl
theorem aa_10 (h0 : 0 ≤ z) (h1 : z < 8) : (isA 8 10 2 z ∨ isA 8 10 3 z) ↔ True := ⟨fun _ => trivial, fun _ => Or.inr ⟨rfl, inR_iff.mpr (by omega), h0, h1⟩⟩
theorem ar_10 {k : Nat} : rf 8 10 k = some (10, k) := rfl
theorem aa_11 (h0 : 0 ≤ z) (h1 : z < 8) : (isA 8 11 2 z ∨ isA 8 11 3 z) ↔ True := ⟨fun _ => trivial, fun _ => Or.inr ⟨rfl, inR_iff.mpr (by omega), h0, h1⟩⟩
theorem ar_11 {k : Nat} : rf 8 11 k = some (11, k) := rfl
theorem it_0 (h0 : 0 ≤ z) (h1 : z < 7) : ial σ 13 0 z = some (sV 0 z.toNat) := by
  unfold ial
  rw [if_pos rfl, if_pos ⟨h0, h1, by decide⟩]
theorem al_0 : aln σ 13 0 = some 7 := rfl
theorem it_1 (h0 : 0 ≤ z) (h1 : z < 3) : ial σ 13 1 z = some (sV 1 z.toNat) := by
  unfold ial
  rw [if_pos rfl, if_pos ⟨h0, h1, by decide⟩]
theorem al_1 : aln σ 13 1 = some 3 := rfl
theorem it_2 (h0 : 0 ≤ z) (h1 : z < 3) : ial σ 13 2 z = some (sV 2 z.toNat) := by
  unfold ial
  rw [if_pos rfl, if_pos ⟨h0, h1, by decide⟩]
theorem al_2 : aln σ 13 2 = some 3 := rfl
theorem it_3 (h0 : 0 ≤ z) (h1 : z < 7) : ial σ 13 3 z = some (sV 3 z.toNat) := by
  unfold ial
  rw [if_pos rfl, if_pos ⟨h0, h1, by decide⟩]
theorem al_3 : aln σ 13 3 = some 7 := rfl
theorem it_4 (h0 : 0 ≤ z) (h1 : z < 7) : ial σ 13 4 z = some (sV 4 z.toNat) := by
  unfold ial
  rw [if_pos rfl, if_pos ⟨h0, h1, by decide⟩]
theorem al_4 : aln σ 13 4 = some 7 := rfl
theorem it_5 (h0 : 0 ≤ z) (h1 : z < 9) : ial σ 13 5 z = some (sV 5 z.toNat) := by
  unfold ial
  rw [if_pos rfl, if_pos ⟨h0, h1, by decide⟩]
theorem al_5 : aln σ 13 5 = some 9 := rfl
theorem it_6 (h0 : 0 ≤ z) (h1 : z < 9) : ial σ 13 6 z = some (sV 6 z.toNat) := by
  unfold ial
  rw [if_pos rfl, if_pos ⟨h0, h1, by decide⟩]
theorem al_6 : aln σ 13 6 = some 9 := rfl
end CE
