/-! MOVES from chord to chord: the rules; the class's side -/
def bPar (fr to : Int → Int) (u w : Int) : Int := if ((fr u - fr w) % 12 = 7 ∨ (fr u - fr w) % 12 = 0) ∧ (fr u - fr w) % 12 = (to u - to w) % 12 ∧ ¬ fr u = to u ∧ ¬ fr w = to w then 1 else 0
def bLea (ld : Int) (fr to : Int → Int) (v : Int) : Int := if (v = 0 ∨ v = 3) ∧ fr v % 12 = ld ∧ ¬ to v - fr v = 0 ∧ ¬ to v - fr v = 1 then 1 else 0
def bSev (sv : Int) (fr to : Int → Int) (v : Int) : Int := if fr v % 12 = sv ∧ (fr v - to v < 0 ∨ 2 < fr v - to v) then 1 else 0
def bStp (fr to fl tl : Int → Int) (v : Int) : Int := if ¬ fl v = -1 ∧ ¬ tl v = -1 ∧ (to v - fr v = 3 ∨ to v - fr v = -3) ∧ (tl v - fl v = 1 ∨ tl v - fl v = -1 ∨ tl v - fl v = 6 ∨ tl v - fl v = -6) then 1 else 0
def allz : List Int → Int
  | [] => 1
  | b :: t => if b = 0 then allz t else 0
/-- 1 if the move breaks no rule -/
def kps (ld sv : Int) (fr to fl tl : Int → Int) : Int := allz [bLea ld fr to 0, bSev sv fr to 0, bStp fr to fl tl 0, bPar fr to 0 1, bPar fr to 0 2, bPar fr to 0 3, bLea ld fr to 1, bSev sv fr to 1, bStp fr to fl tl 1, bPar fr to 1 2, bPar fr to 1 3, bLea ld fr to 2, bSev sv fr to 2, bStp fr to fl tl 2, bPar fr to 2 3, bLea ld fr to 3, bSev sv fr to 3, bStp fr to fl tl 3]
theorem bPar_in (fr to : Int → Int) (u w : Int) : bPar fr to u w = 0 ∨ bPar fr to u w = 1 := by unfold bPar; split <;> simp
theorem bLea_in (ld : Int) (fr to : Int → Int) (v : Int) : bLea ld fr to v = 0 ∨ bLea ld fr to v = 1 := by unfold bLea; split <;> simp
theorem bSev_in (sv : Int) (fr to : Int → Int) (v : Int) : bSev sv fr to v = 0 ∨ bSev sv fr to v = 1 := by unfold bSev; split <;> simp
theorem bStp_in (fr to fl tl : Int → Int) (v : Int) : bStp fr to fl tl v = 0 ∨ bStp fr to fl tl v = 1 := by unfold bStp; split <;> simp
/-- the Move in the object (8, m): m = 5 of the realisation, m = 16 of the examination -/
def MvF (σ : Sg) (m : Nat) (ld sv : Int) (fr fl : Int → Int) : Prop := σ 8 m 4 = ld ∧ σ 8 m 5 = sv ∧ ∀ v : Int, 0 ≤ v → v ≤ 3 → σ 8 (m + 1) v.toNat = fr v ∧ σ 8 (m + 3) v.toNat = fl v
def MvT (σ : Sg) (m : Nat) (to tl : Int → Int) : Prop := ∀ v : Int, 0 ≤ v → v ≤ 3 → σ 8 (m + 2) v.toNat = to v ∧ σ 8 (m + 4) v.toNat = tl v
/-- sounds, letters -/
def sIn (w : Int → Int) : Prop := ∀ v : Int, 0 ≤ v → v ≤ 3 → 0 ≤ w v ∧ w v ≤ 127
def lIn (w : Int → Int) : Prop := ∀ v : Int, 0 ≤ v → v ≤ 3 → -1 ≤ w v ∧ w v ≤ 6
section MV
variable {d : Nat} {σ : Sg} {m : Nat} {ld sv u w v : Int} {fr to fl tl : Int → Int} {Q : Rs → Sg → Prop}
theorem r_bPar (hm : m = 5 ∨ m = 16) (hF : MvF σ m ld sv fr fl) (hT : MvT σ m to tl) (sF : sIn fr) (sT : sIn to) (hu : 0 ≤ u ∧ u ≤ 3) (hw : 0 ≤ w ∧ w ≤ 3) : Rn (d + 1) 51 [vr 8 m, vi u, vi w] σ (.inl (some (vi (bPar fr to u w)))) σ := by
  have f1 := (hF.2.2 u hu.1 hu.2).1
  have f2 := (hF.2.2 w hw.1 hw.2).1
  have t1 := (hT u hu.1 hu.2).1
  have t2 := (hT w hw.1 hw.2).1
  have s1 := sF u hu.1 hu.2
  have s2 := sF w hw.1 hw.2
  have s3 := sT u hu.1 hu.2
  have s4 := sT w hw.1 hw.2
  refine Rn.of ?_
  rw [e51]
  unfold bPar
  have hm9 : ∀ (a : Int) (Q : Rs → Sg → Prop), -2147483648 ≤ a ∧ a ≤ 2147483647 → (Wm d 128 [vi a, vi 12] σ Q ↔ Q (.inl (some (vi (a % 12)))) σ) := fun a Q h => (r_floorMod h (by omega)).iff
  rcases hm with rfl | rfl
  · simp only [Nat.reduceAdd] at f1 f2 t1 t2
    simp (disch := first | omega | simp) only [u51_0, u51_1, u51_4, u51_5, u51_6, u51_7, u51_10, u51_11, u51_12, u51_13, u51_15, u51_18, u51_19, u51_20, u51_22, u51_25, u51_26, u51_29, u51_30, u51_31, u51_34, u51_35, u51_36, u51_37, u51_40, u51_41, u51_42, u51_43, u51_45, u51_48, u51_51, u51_52, u51_55, u51_56, u51_57, u51_58, u51_61, u51_62, u51_63, u51_66, u51_67, u51_70, u51_71, u51_72, u51_73, u51_76, u51_77, u51_78, u51_81, u51_82, u51_85, u51_86, o_8_0, fv_8_0_0, fv_8_0_1, fv_8_0_2, fv_8_0_3, fv_8_0_4, rf_8_0_4, o_8_1, fv_8_1_0, fv_8_1_1, rf_8_1_1, o_8_4, fv_8_4_0, fv_8_4_1, fv_8_4_2, fv_8_4_3, fv_8_4_4, fv_8_4_5, fv_8_4_6, rf_8_4_6, o_8_5, fv_8_5_0, fv_8_5_1, fv_8_5_2, fv_8_5_3, fv_8_5_4, rf_8_5_4, fv_8_5_5, rf_8_5_5, o_8_15, fv_8_15_0, fv_8_15_1, fv_8_15_2, fv_8_15_3, fv_8_15_4, rf_8_15_4, o_8_16, fv_8_16_0, fv_8_16_1, fv_8_16_2, fv_8_16_3, fv_8_16_4, rf_8_16_4, fv_8_16_5, rf_8_16_5, ia_8_2, is_8_2, ia_8_6, is_8_6, ia_8_7, is_8_7, ia_8_8, is_8_8, ia_8_9, is_8_9, ia_8_14, is_8_14, ia_8_17, is_8_17, ia_8_18, is_8_18, ia_8_19, is_8_19, ia_8_20, is_8_20, ia_8_21, is_8_21, ia_8_22, is_8_22, ia_8_23, is_8_23, iz_8_12, iz_8_13, aa_3, ar_3, aa_10, ar_10, aa_11, ar_11, ia_10, is_10, ia_11, is_11, f1, f2, t1, t2, hm9, Li_s, Lr_s, Ll_s, On_s, lget, lset, clr_i, clr_r, clr_n, Kc_i, Kc_v, Kc_x, true_and, and_true, List.length_cons, List.length_nil, nlg, isLn, List.all_cons, List.all_nil, Bool.and_true, Bool.not_false, Nat.zero_le, Nat.reduceAdd, Nat.reduceLeDiff, ↓reduceIte, Int.reduceLT, Int.reduceLE, Int.reduceAdd, Int.reduceSub, Int.reduceMul, Int.reduceNeg, Int.reduceToNat, Int.reduceEq, not_true_eq_false, not_false_eq_true, Int.toNat_zero, true_or, or_true]
    repeat' split
    all_goals first | rfl | omega
  · simp only [Nat.reduceAdd] at f1 f2 t1 t2
    simp (disch := first | omega | simp) only [u51_0, u51_1, u51_4, u51_5, u51_6, u51_7, u51_10, u51_11, u51_12, u51_13, u51_15, u51_18, u51_19, u51_20, u51_22, u51_25, u51_26, u51_29, u51_30, u51_31, u51_34, u51_35, u51_36, u51_37, u51_40, u51_41, u51_42, u51_43, u51_45, u51_48, u51_51, u51_52, u51_55, u51_56, u51_57, u51_58, u51_61, u51_62, u51_63, u51_66, u51_67, u51_70, u51_71, u51_72, u51_73, u51_76, u51_77, u51_78, u51_81, u51_82, u51_85, u51_86, o_8_0, fv_8_0_0, fv_8_0_1, fv_8_0_2, fv_8_0_3, fv_8_0_4, rf_8_0_4, o_8_1, fv_8_1_0, fv_8_1_1, rf_8_1_1, o_8_4, fv_8_4_0, fv_8_4_1, fv_8_4_2, fv_8_4_3, fv_8_4_4, fv_8_4_5, fv_8_4_6, rf_8_4_6, o_8_5, fv_8_5_0, fv_8_5_1, fv_8_5_2, fv_8_5_3, fv_8_5_4, rf_8_5_4, fv_8_5_5, rf_8_5_5, o_8_15, fv_8_15_0, fv_8_15_1, fv_8_15_2, fv_8_15_3, fv_8_15_4, rf_8_15_4, o_8_16, fv_8_16_0, fv_8_16_1, fv_8_16_2, fv_8_16_3, fv_8_16_4, rf_8_16_4, fv_8_16_5, rf_8_16_5, ia_8_2, is_8_2, ia_8_6, is_8_6, ia_8_7, is_8_7, ia_8_8, is_8_8, ia_8_9, is_8_9, ia_8_14, is_8_14, ia_8_17, is_8_17, ia_8_18, is_8_18, ia_8_19, is_8_19, ia_8_20, is_8_20, ia_8_21, is_8_21, ia_8_22, is_8_22, ia_8_23, is_8_23, iz_8_12, iz_8_13, aa_3, ar_3, aa_10, ar_10, aa_11, ar_11, ia_10, is_10, ia_11, is_11, f1, f2, t1, t2, hm9, Li_s, Lr_s, Ll_s, On_s, lget, lset, clr_i, clr_r, clr_n, Kc_i, Kc_v, Kc_x, true_and, and_true, List.length_cons, List.length_nil, nlg, isLn, List.all_cons, List.all_nil, Bool.and_true, Bool.not_false, Nat.zero_le, Nat.reduceAdd, Nat.reduceLeDiff, ↓reduceIte, Int.reduceLT, Int.reduceLE, Int.reduceAdd, Int.reduceSub, Int.reduceMul, Int.reduceNeg, Int.reduceToNat, Int.reduceEq, not_true_eq_false, not_false_eq_true, Int.toNat_zero, true_or, or_true]
    repeat' split
    all_goals first | rfl | omega
theorem r_bLea (hm : m = 5 ∨ m = 16) (hF : MvF σ m ld sv fr fl) (hT : MvT σ m to tl) (sF : sIn fr) (sT : sIn to) (hv : 0 ≤ v ∧ v ≤ 3) (hl : -1 ≤ ld ∧ ld ≤ 11) : Rn d 52 [vr 8 m, vi v] σ (.inl (some (vi (bLea ld fr to v)))) σ := by
  have f1 := (hF.2.2 v hv.1 hv.2).1
  have t1 := (hT v hv.1 hv.2).1
  have s1 := sF v hv.1 hv.2
  have s3 := sT v hv.1 hv.2
  have g1 := hF.1
  have e : Int.tmod (fr v) 12 = fr v % 12 := Int.tmod_eq_emod_of_nonneg s1.1
  refine Rn.of ?_
  rw [e52]
  unfold bLea
  rcases hm with rfl | rfl
  · simp only [Nat.reduceAdd] at f1 t1
    simp (disch := first | omega | simp) only [u52_0, u52_1, u52_4, u52_5, u52_6, u52_7, u52_10, u52_11, u52_12, u52_13, u52_14, u52_15, u52_18, u52_19, u52_20, u52_23, u52_24, u52_27, u52_28, u52_29, u52_31, u52_32, u52_33, u52_36, u52_39, u52_40, u52_43, u52_44, u52_45, u52_48, u52_49, u52_52, u52_53, o_8_0, fv_8_0_0, fv_8_0_1, fv_8_0_2, fv_8_0_3, fv_8_0_4, rf_8_0_4, o_8_1, fv_8_1_0, fv_8_1_1, rf_8_1_1, o_8_4, fv_8_4_0, fv_8_4_1, fv_8_4_2, fv_8_4_3, fv_8_4_4, fv_8_4_5, fv_8_4_6, rf_8_4_6, o_8_5, fv_8_5_0, fv_8_5_1, fv_8_5_2, fv_8_5_3, fv_8_5_4, rf_8_5_4, fv_8_5_5, rf_8_5_5, o_8_15, fv_8_15_0, fv_8_15_1, fv_8_15_2, fv_8_15_3, fv_8_15_4, rf_8_15_4, o_8_16, fv_8_16_0, fv_8_16_1, fv_8_16_2, fv_8_16_3, fv_8_16_4, rf_8_16_4, fv_8_16_5, rf_8_16_5, ia_8_2, is_8_2, ia_8_6, is_8_6, ia_8_7, is_8_7, ia_8_8, is_8_8, ia_8_9, is_8_9, ia_8_14, is_8_14, ia_8_17, is_8_17, ia_8_18, is_8_18, ia_8_19, is_8_19, ia_8_20, is_8_20, ia_8_21, is_8_21, ia_8_22, is_8_22, ia_8_23, is_8_23, iz_8_12, iz_8_13, aa_3, ar_3, aa_10, ar_10, aa_11, ar_11, ia_10, is_10, ia_11, is_11, f1, t1, g1, e, Li_s, Lr_s, Ll_s, On_s, lget, lset, clr_i, clr_r, clr_n, Kc_i, Kc_v, Kc_x, true_and, and_true, List.length_cons, List.length_nil, nlg, isLn, List.all_cons, List.all_nil, Bool.and_true, Bool.not_false, Nat.zero_le, Nat.reduceAdd, Nat.reduceLeDiff, ↓reduceIte, Int.reduceLT, Int.reduceLE, Int.reduceAdd, Int.reduceSub, Int.reduceMul, Int.reduceNeg, Int.reduceToNat, Int.reduceEq, not_true_eq_false, not_false_eq_true, Int.toNat_zero, true_or, or_true]
    repeat' split
    all_goals first | rfl | omega | simp_all
  · simp only [Nat.reduceAdd] at f1 t1
    simp (disch := first | omega | simp) only [u52_0, u52_1, u52_4, u52_5, u52_6, u52_7, u52_10, u52_11, u52_12, u52_13, u52_14, u52_15, u52_18, u52_19, u52_20, u52_23, u52_24, u52_27, u52_28, u52_29, u52_31, u52_32, u52_33, u52_36, u52_39, u52_40, u52_43, u52_44, u52_45, u52_48, u52_49, u52_52, u52_53, o_8_0, fv_8_0_0, fv_8_0_1, fv_8_0_2, fv_8_0_3, fv_8_0_4, rf_8_0_4, o_8_1, fv_8_1_0, fv_8_1_1, rf_8_1_1, o_8_4, fv_8_4_0, fv_8_4_1, fv_8_4_2, fv_8_4_3, fv_8_4_4, fv_8_4_5, fv_8_4_6, rf_8_4_6, o_8_5, fv_8_5_0, fv_8_5_1, fv_8_5_2, fv_8_5_3, fv_8_5_4, rf_8_5_4, fv_8_5_5, rf_8_5_5, o_8_15, fv_8_15_0, fv_8_15_1, fv_8_15_2, fv_8_15_3, fv_8_15_4, rf_8_15_4, o_8_16, fv_8_16_0, fv_8_16_1, fv_8_16_2, fv_8_16_3, fv_8_16_4, rf_8_16_4, fv_8_16_5, rf_8_16_5, ia_8_2, is_8_2, ia_8_6, is_8_6, ia_8_7, is_8_7, ia_8_8, is_8_8, ia_8_9, is_8_9, ia_8_14, is_8_14, ia_8_17, is_8_17, ia_8_18, is_8_18, ia_8_19, is_8_19, ia_8_20, is_8_20, ia_8_21, is_8_21, ia_8_22, is_8_22, ia_8_23, is_8_23, iz_8_12, iz_8_13, aa_3, ar_3, aa_10, ar_10, aa_11, ar_11, ia_10, is_10, ia_11, is_11, f1, t1, g1, e, Li_s, Lr_s, Ll_s, On_s, lget, lset, clr_i, clr_r, clr_n, Kc_i, Kc_v, Kc_x, true_and, and_true, List.length_cons, List.length_nil, nlg, isLn, List.all_cons, List.all_nil, Bool.and_true, Bool.not_false, Nat.zero_le, Nat.reduceAdd, Nat.reduceLeDiff, ↓reduceIte, Int.reduceLT, Int.reduceLE, Int.reduceAdd, Int.reduceSub, Int.reduceMul, Int.reduceNeg, Int.reduceToNat, Int.reduceEq, not_true_eq_false, not_false_eq_true, Int.toNat_zero, true_or, or_true]
    repeat' split
    all_goals first | rfl | omega | simp_all
theorem r_bSev (hm : m = 5 ∨ m = 16) (hF : MvF σ m ld sv fr fl) (hT : MvT σ m to tl) (sF : sIn fr) (sT : sIn to) (hv : 0 ≤ v ∧ v ≤ 3) (hl : -1 ≤ sv ∧ sv ≤ 11) : Rn d 53 [vr 8 m, vi v] σ (.inl (some (vi (bSev sv fr to v)))) σ := by
  have f1 := (hF.2.2 v hv.1 hv.2).1
  have t1 := (hT v hv.1 hv.2).1
  have s1 := sF v hv.1 hv.2
  have s3 := sT v hv.1 hv.2
  have g1 := hF.2.1
  have e : Int.tmod (fr v) 12 = fr v % 12 := Int.tmod_eq_emod_of_nonneg s1.1
  refine Rn.of ?_
  rw [e53]
  unfold bSev
  rcases hm with rfl | rfl
  · simp only [Nat.reduceAdd] at f1 t1
    simp (disch := first | omega | simp) only [u53_0, u53_1, u53_4, u53_5, u53_6, u53_7, u53_10, u53_11, u53_12, u53_13, u53_14, u53_15, u53_18, u53_19, u53_20, u53_22, u53_23, u53_24, u53_27, u53_30, u53_31, u53_34, u53_35, u53_36, u53_39, u53_40, u53_43, u53_44, o_8_0, fv_8_0_0, fv_8_0_1, fv_8_0_2, fv_8_0_3, fv_8_0_4, rf_8_0_4, o_8_1, fv_8_1_0, fv_8_1_1, rf_8_1_1, o_8_4, fv_8_4_0, fv_8_4_1, fv_8_4_2, fv_8_4_3, fv_8_4_4, fv_8_4_5, fv_8_4_6, rf_8_4_6, o_8_5, fv_8_5_0, fv_8_5_1, fv_8_5_2, fv_8_5_3, fv_8_5_4, rf_8_5_4, fv_8_5_5, rf_8_5_5, o_8_15, fv_8_15_0, fv_8_15_1, fv_8_15_2, fv_8_15_3, fv_8_15_4, rf_8_15_4, o_8_16, fv_8_16_0, fv_8_16_1, fv_8_16_2, fv_8_16_3, fv_8_16_4, rf_8_16_4, fv_8_16_5, rf_8_16_5, ia_8_2, is_8_2, ia_8_6, is_8_6, ia_8_7, is_8_7, ia_8_8, is_8_8, ia_8_9, is_8_9, ia_8_14, is_8_14, ia_8_17, is_8_17, ia_8_18, is_8_18, ia_8_19, is_8_19, ia_8_20, is_8_20, ia_8_21, is_8_21, ia_8_22, is_8_22, ia_8_23, is_8_23, iz_8_12, iz_8_13, aa_3, ar_3, aa_10, ar_10, aa_11, ar_11, ia_10, is_10, ia_11, is_11, f1, t1, g1, e, Li_s, Lr_s, Ll_s, On_s, lget, lset, clr_i, clr_r, clr_n, Kc_i, Kc_v, Kc_x, true_and, and_true, List.length_cons, List.length_nil, nlg, isLn, List.all_cons, List.all_nil, Bool.and_true, Bool.not_false, Nat.zero_le, Nat.reduceAdd, Nat.reduceLeDiff, ↓reduceIte, Int.reduceLT, Int.reduceLE, Int.reduceAdd, Int.reduceSub, Int.reduceMul, Int.reduceNeg, Int.reduceToNat, Int.reduceEq, not_true_eq_false, not_false_eq_true, Int.toNat_zero, true_or, or_true]
    repeat' split
    all_goals first | rfl | omega | simp_all
  · simp only [Nat.reduceAdd] at f1 t1
    simp (disch := first | omega | simp) only [u53_0, u53_1, u53_4, u53_5, u53_6, u53_7, u53_10, u53_11, u53_12, u53_13, u53_14, u53_15, u53_18, u53_19, u53_20, u53_22, u53_23, u53_24, u53_27, u53_30, u53_31, u53_34, u53_35, u53_36, u53_39, u53_40, u53_43, u53_44, o_8_0, fv_8_0_0, fv_8_0_1, fv_8_0_2, fv_8_0_3, fv_8_0_4, rf_8_0_4, o_8_1, fv_8_1_0, fv_8_1_1, rf_8_1_1, o_8_4, fv_8_4_0, fv_8_4_1, fv_8_4_2, fv_8_4_3, fv_8_4_4, fv_8_4_5, fv_8_4_6, rf_8_4_6, o_8_5, fv_8_5_0, fv_8_5_1, fv_8_5_2, fv_8_5_3, fv_8_5_4, rf_8_5_4, fv_8_5_5, rf_8_5_5, o_8_15, fv_8_15_0, fv_8_15_1, fv_8_15_2, fv_8_15_3, fv_8_15_4, rf_8_15_4, o_8_16, fv_8_16_0, fv_8_16_1, fv_8_16_2, fv_8_16_3, fv_8_16_4, rf_8_16_4, fv_8_16_5, rf_8_16_5, ia_8_2, is_8_2, ia_8_6, is_8_6, ia_8_7, is_8_7, ia_8_8, is_8_8, ia_8_9, is_8_9, ia_8_14, is_8_14, ia_8_17, is_8_17, ia_8_18, is_8_18, ia_8_19, is_8_19, ia_8_20, is_8_20, ia_8_21, is_8_21, ia_8_22, is_8_22, ia_8_23, is_8_23, iz_8_12, iz_8_13, aa_3, ar_3, aa_10, ar_10, aa_11, ar_11, ia_10, is_10, ia_11, is_11, f1, t1, g1, e, Li_s, Lr_s, Ll_s, On_s, lget, lset, clr_i, clr_r, clr_n, Kc_i, Kc_v, Kc_x, true_and, and_true, List.length_cons, List.length_nil, nlg, isLn, List.all_cons, List.all_nil, Bool.and_true, Bool.not_false, Nat.zero_le, Nat.reduceAdd, Nat.reduceLeDiff, ↓reduceIte, Int.reduceLT, Int.reduceLE, Int.reduceAdd, Int.reduceSub, Int.reduceMul, Int.reduceNeg, Int.reduceToNat, Int.reduceEq, not_true_eq_false, not_false_eq_true, Int.toNat_zero, true_or, or_true]
    repeat' split
    all_goals first | rfl | omega | simp_all
theorem r_bStp (hm : m = 5 ∨ m = 16) (hF : MvF σ m ld sv fr fl) (hT : MvT σ m to tl) (sF : sIn fr) (sT : sIn to) (lF : lIn fl) (lT : lIn tl) (hv : 0 ≤ v ∧ v ≤ 3) : Rn d 54 [vr 8 m, vi v] σ (.inl (some (vi (bStp fr to fl tl v)))) σ := by
  obtain ⟨f1, f2⟩ := hF.2.2 v hv.1 hv.2
  obtain ⟨t1, t2⟩ := hT v hv.1 hv.2
  have s1 := sF v hv.1 hv.2
  have s3 := sT v hv.1 hv.2
  have l1 := lF v hv.1 hv.2
  have l2 := lT v hv.1 hv.2
  refine Rn.of ?_
  rw [e54]
  unfold bStp
  rcases hm with rfl | rfl
  · simp only [Nat.reduceAdd] at f1 t1 f2 t2
    simp (disch := first | omega | simp) only [u54_0, u54_1, u54_4, u54_5, u54_6, u54_7, u54_8, u54_11, u54_12, u54_13, u54_14, u54_15, u54_16, u54_19, u54_20, u54_21, u54_24, u54_25, u54_28, u54_29, u54_30, u54_31, u54_34, u54_35, u54_36, u54_37, u54_40, u54_41, u54_44, u54_45, u54_46, u54_47, u54_48, u54_49, u54_52, u54_54, u54_56, u54_57, u54_60, u54_62, u54_64, u54_67, u54_68, u54_71, u54_72, o_8_0, fv_8_0_0, fv_8_0_1, fv_8_0_2, fv_8_0_3, fv_8_0_4, rf_8_0_4, o_8_1, fv_8_1_0, fv_8_1_1, rf_8_1_1, o_8_4, fv_8_4_0, fv_8_4_1, fv_8_4_2, fv_8_4_3, fv_8_4_4, fv_8_4_5, fv_8_4_6, rf_8_4_6, o_8_5, fv_8_5_0, fv_8_5_1, fv_8_5_2, fv_8_5_3, fv_8_5_4, rf_8_5_4, fv_8_5_5, rf_8_5_5, o_8_15, fv_8_15_0, fv_8_15_1, fv_8_15_2, fv_8_15_3, fv_8_15_4, rf_8_15_4, o_8_16, fv_8_16_0, fv_8_16_1, fv_8_16_2, fv_8_16_3, fv_8_16_4, rf_8_16_4, fv_8_16_5, rf_8_16_5, ia_8_2, is_8_2, ia_8_6, is_8_6, ia_8_7, is_8_7, ia_8_8, is_8_8, ia_8_9, is_8_9, ia_8_14, is_8_14, ia_8_17, is_8_17, ia_8_18, is_8_18, ia_8_19, is_8_19, ia_8_20, is_8_20, ia_8_21, is_8_21, ia_8_22, is_8_22, ia_8_23, is_8_23, iz_8_12, iz_8_13, aa_3, ar_3, aa_10, ar_10, aa_11, ar_11, ia_10, is_10, ia_11, is_11, f1, t1, f2, t2, Li_s, Lr_s, Ll_s, On_s, lget, lset, clr_i, clr_r, clr_n, Kc_i, Kc_v, Kc_x, true_and, and_true, List.length_cons, List.length_nil, nlg, isLn, List.all_cons, List.all_nil, Bool.and_true, Bool.not_false, Nat.zero_le, Nat.reduceAdd, Nat.reduceLeDiff, ↓reduceIte, Int.reduceLT, Int.reduceLE, Int.reduceAdd, Int.reduceSub, Int.reduceMul, Int.reduceNeg, Int.reduceToNat, Int.reduceEq, not_true_eq_false, not_false_eq_true, Int.toNat_zero, true_or, or_true]
    repeat' split
    all_goals first | rfl | omega
  · simp only [Nat.reduceAdd] at f1 t1 f2 t2
    simp (disch := first | omega | simp) only [u54_0, u54_1, u54_4, u54_5, u54_6, u54_7, u54_8, u54_11, u54_12, u54_13, u54_14, u54_15, u54_16, u54_19, u54_20, u54_21, u54_24, u54_25, u54_28, u54_29, u54_30, u54_31, u54_34, u54_35, u54_36, u54_37, u54_40, u54_41, u54_44, u54_45, u54_46, u54_47, u54_48, u54_49, u54_52, u54_54, u54_56, u54_57, u54_60, u54_62, u54_64, u54_67, u54_68, u54_71, u54_72, o_8_0, fv_8_0_0, fv_8_0_1, fv_8_0_2, fv_8_0_3, fv_8_0_4, rf_8_0_4, o_8_1, fv_8_1_0, fv_8_1_1, rf_8_1_1, o_8_4, fv_8_4_0, fv_8_4_1, fv_8_4_2, fv_8_4_3, fv_8_4_4, fv_8_4_5, fv_8_4_6, rf_8_4_6, o_8_5, fv_8_5_0, fv_8_5_1, fv_8_5_2, fv_8_5_3, fv_8_5_4, rf_8_5_4, fv_8_5_5, rf_8_5_5, o_8_15, fv_8_15_0, fv_8_15_1, fv_8_15_2, fv_8_15_3, fv_8_15_4, rf_8_15_4, o_8_16, fv_8_16_0, fv_8_16_1, fv_8_16_2, fv_8_16_3, fv_8_16_4, rf_8_16_4, fv_8_16_5, rf_8_16_5, ia_8_2, is_8_2, ia_8_6, is_8_6, ia_8_7, is_8_7, ia_8_8, is_8_8, ia_8_9, is_8_9, ia_8_14, is_8_14, ia_8_17, is_8_17, ia_8_18, is_8_18, ia_8_19, is_8_19, ia_8_20, is_8_20, ia_8_21, is_8_21, ia_8_22, is_8_22, ia_8_23, is_8_23, iz_8_12, iz_8_13, aa_3, ar_3, aa_10, ar_10, aa_11, ar_11, ia_10, is_10, ia_11, is_11, f1, t1, f2, t2, Li_s, Lr_s, Ll_s, On_s, lget, lset, clr_i, clr_r, clr_n, Kc_i, Kc_v, Kc_x, true_and, and_true, List.length_cons, List.length_nil, nlg, isLn, List.all_cons, List.all_nil, Bool.and_true, Bool.not_false, Nat.zero_le, Nat.reduceAdd, Nat.reduceLeDiff, ↓reduceIte, Int.reduceLT, Int.reduceLE, Int.reduceAdd, Int.reduceSub, Int.reduceMul, Int.reduceNeg, Int.reduceToNat, Int.reduceEq, not_true_eq_false, not_false_eq_true, Int.toNat_zero, true_or, or_true]
    repeat' split
    all_goals first | rfl | omega
theorem b01 {b : Int} (h : b = 0 ∨ b = 1) : 0 ≤ b ∧ b ≤ 1 := by omega
/-- keepsRules() -/
theorem r_keeps (hm : m = 5 ∨ m = 16) (hF : MvF σ m ld sv fr fl) (hT : MvT σ m to tl) (sF : sIn fr) (sT : sIn to) (lF : lIn fl) (lT : lIn tl) (hl : -1 ≤ ld ∧ ld ≤ 11) (hs : -1 ≤ sv ∧ sv ≤ 11) : Rn (d + 2) 50 [vr 8 m] σ (.inl (some (vi (kps ld sv fr to fl tl)))) σ := by
  have c1 : ∀ (v : Int) (Q : Rs → Sg → Prop), 0 ≤ v ∧ v ≤ 3 → (Wm (d + 1) 52 [vr 8 m, vi v] σ Q ↔ Q (.inl (some (vi (bLea ld fr to v)))) σ) := fun v Q h => (r_bLea hm hF hT sF sT h hl).iff
  have c2 : ∀ (v : Int) (Q : Rs → Sg → Prop), 0 ≤ v ∧ v ≤ 3 → (Wm (d + 1) 53 [vr 8 m, vi v] σ Q ↔ Q (.inl (some (vi (bSev sv fr to v)))) σ) := fun v Q h => (r_bSev hm hF hT sF sT h hs).iff
  have c3 : ∀ (v : Int) (Q : Rs → Sg → Prop), 0 ≤ v ∧ v ≤ 3 → (Wm (d + 1) 54 [vr 8 m, vi v] σ Q ↔ Q (.inl (some (vi (bStp fr to fl tl v)))) σ) := fun v Q h => (r_bStp hm hF hT sF sT lF lT h).iff
  have c4 : ∀ (u w : Int) (Q : Rs → Sg → Prop), 0 ≤ u ∧ u ≤ 3 → 0 ≤ w ∧ w ≤ 3 → (Wm (d + 1) 51 [vr 8 m, vi u, vi w] σ Q ↔ Q (.inl (some (vi (bPar fr to u w)))) σ) := fun u w Q h h2 => (r_bPar hm hF hT sF sT h h2).iff
  have oo : isO 8 m 4 ↔ True := by rcases hm with rfl | rfl <;> first | exact o_8_5 | exact o_8_16
  refine Rn.of ?_
  rw [e50]
  have i1 := b01 (bLea_in ld fr to 0)
  have i2 := b01 (bSev_in sv fr to 0)
  have i3 := b01 (bStp_in fr to fl tl 0)
  have i4 := b01 (bPar_in fr to 0 1)
  have i5 := b01 (bPar_in fr to 0 2)
  have i6 := b01 (bPar_in fr to 0 3)
  have i7 := b01 (bLea_in ld fr to 1)
  have i8 := b01 (bSev_in sv fr to 1)
  have i9 := b01 (bStp_in fr to fl tl 1)
  have i10 := b01 (bPar_in fr to 1 2)
  have i11 := b01 (bPar_in fr to 1 3)
  have i12 := b01 (bLea_in ld fr to 2)
  have i13 := b01 (bSev_in sv fr to 2)
  have i14 := b01 (bStp_in fr to fl tl 2)
  have i15 := b01 (bPar_in fr to 2 3)
  have i16 := b01 (bLea_in ld fr to 3)
  have i17 := b01 (bSev_in sv fr to 3)
  have i18 := b01 (bStp_in fr to fl tl 3)
  simp (disch := first | omega | simp) only [u50_0, u50_1, u50_2, u50_3, u50_4, u50_7, u50_8, u50_9, u50_12, u50_15, u50_16, u50_17, u50_20, u50_23, u50_24, u50_25, u50_28, u50_31, u50_32, u50_33, u50_34, u50_35, u50_36, u50_37, u50_38, u50_39, u50_42, u50_43, u50_44, u50_45, u50_48, u50_51, u50_52, u50_53, u50_56, u50_59, u50_62, u50_65, u50_66, oo, Li_s, Lr_s, Ll_s, On_s, lget, lset, clr_i, clr_r, clr_n, Kc_i, Kc_v, Kc_x, true_and, and_true, List.length_cons, List.length_nil, nlg, isLn, List.all_cons, List.all_nil, Bool.and_true, Bool.not_false, Nat.zero_le, Nat.reduceAdd, Nat.reduceLeDiff, ↓reduceIte, Int.reduceLT, Int.reduceLE, Int.reduceAdd, Int.reduceSub, Int.reduceMul, Int.reduceNeg, Int.reduceToNat, Int.reduceEq, not_true_eq_false, not_false_eq_true, Int.toNat_zero, true_or, or_true]
  rw [c1 _ _ (by omega)]
  simp (disch := first | omega | simp) only [u50_0, u50_1, u50_2, u50_3, u50_4, u50_7, u50_8, u50_9, u50_12, u50_15, u50_16, u50_17, u50_20, u50_23, u50_24, u50_25, u50_28, u50_31, u50_32, u50_33, u50_34, u50_35, u50_36, u50_37, u50_38, u50_39, u50_42, u50_43, u50_44, u50_45, u50_48, u50_51, u50_52, u50_53, u50_56, u50_59, u50_62, u50_65, u50_66, oo, Li_s, Lr_s, Ll_s, On_s, lget, lset, clr_i, clr_r, clr_n, Kc_i, Kc_v, Kc_x, true_and, and_true, List.length_cons, List.length_nil, nlg, isLn, List.all_cons, List.all_nil, Bool.and_true, Bool.not_false, Nat.zero_le, Nat.reduceAdd, Nat.reduceLeDiff, ↓reduceIte, Int.reduceLT, Int.reduceLE, Int.reduceAdd, Int.reduceSub, Int.reduceMul, Int.reduceNeg, Int.reduceToNat, Int.reduceEq, not_true_eq_false, not_false_eq_true, Int.toNat_zero, true_or, or_true]
  by_cases h1 : bLea ld fr to 0 = 0
  case neg =>
    rw [if_pos h1]
    simp [kps, allz, h1]
  rw [if_neg (fun q => q h1)]
  rw [c2 _ _ (by omega)]
  simp (disch := first | omega | simp) only [u50_0, u50_1, u50_2, u50_3, u50_4, u50_7, u50_8, u50_9, u50_12, u50_15, u50_16, u50_17, u50_20, u50_23, u50_24, u50_25, u50_28, u50_31, u50_32, u50_33, u50_34, u50_35, u50_36, u50_37, u50_38, u50_39, u50_42, u50_43, u50_44, u50_45, u50_48, u50_51, u50_52, u50_53, u50_56, u50_59, u50_62, u50_65, u50_66, oo, Li_s, Lr_s, Ll_s, On_s, lget, lset, clr_i, clr_r, clr_n, Kc_i, Kc_v, Kc_x, true_and, and_true, List.length_cons, List.length_nil, nlg, isLn, List.all_cons, List.all_nil, Bool.and_true, Bool.not_false, Nat.zero_le, Nat.reduceAdd, Nat.reduceLeDiff, ↓reduceIte, Int.reduceLT, Int.reduceLE, Int.reduceAdd, Int.reduceSub, Int.reduceMul, Int.reduceNeg, Int.reduceToNat, Int.reduceEq, not_true_eq_false, not_false_eq_true, Int.toNat_zero, true_or, or_true]
  by_cases h2 : bSev sv fr to 0 = 0
  case neg =>
    rw [if_pos h2]
    simp [kps, allz, h1, h2]
  rw [if_neg (fun q => q h2)]
  rw [c3 _ _ (by omega)]
  simp (disch := first | omega | simp) only [u50_0, u50_1, u50_2, u50_3, u50_4, u50_7, u50_8, u50_9, u50_12, u50_15, u50_16, u50_17, u50_20, u50_23, u50_24, u50_25, u50_28, u50_31, u50_32, u50_33, u50_34, u50_35, u50_36, u50_37, u50_38, u50_39, u50_42, u50_43, u50_44, u50_45, u50_48, u50_51, u50_52, u50_53, u50_56, u50_59, u50_62, u50_65, u50_66, oo, Li_s, Lr_s, Ll_s, On_s, lget, lset, clr_i, clr_r, clr_n, Kc_i, Kc_v, Kc_x, true_and, and_true, List.length_cons, List.length_nil, nlg, isLn, List.all_cons, List.all_nil, Bool.and_true, Bool.not_false, Nat.zero_le, Nat.reduceAdd, Nat.reduceLeDiff, ↓reduceIte, Int.reduceLT, Int.reduceLE, Int.reduceAdd, Int.reduceSub, Int.reduceMul, Int.reduceNeg, Int.reduceToNat, Int.reduceEq, not_true_eq_false, not_false_eq_true, Int.toNat_zero, true_or, or_true]
  by_cases h3 : bStp fr to fl tl 0 = 0
  case neg =>
    rw [if_neg h3]
    simp [kps, allz, h1, h2, h3]
  rw [if_pos h3]
  rw [c4 _ _ _ (by omega) (by omega)]
  simp (disch := first | omega | simp) only [u50_0, u50_1, u50_2, u50_3, u50_4, u50_7, u50_8, u50_9, u50_12, u50_15, u50_16, u50_17, u50_20, u50_23, u50_24, u50_25, u50_28, u50_31, u50_32, u50_33, u50_34, u50_35, u50_36, u50_37, u50_38, u50_39, u50_42, u50_43, u50_44, u50_45, u50_48, u50_51, u50_52, u50_53, u50_56, u50_59, u50_62, u50_65, u50_66, oo, Li_s, Lr_s, Ll_s, On_s, lget, lset, clr_i, clr_r, clr_n, Kc_i, Kc_v, Kc_x, true_and, and_true, List.length_cons, List.length_nil, nlg, isLn, List.all_cons, List.all_nil, Bool.and_true, Bool.not_false, Nat.zero_le, Nat.reduceAdd, Nat.reduceLeDiff, ↓reduceIte, Int.reduceLT, Int.reduceLE, Int.reduceAdd, Int.reduceSub, Int.reduceMul, Int.reduceNeg, Int.reduceToNat, Int.reduceEq, not_true_eq_false, not_false_eq_true, Int.toNat_zero, true_or, or_true]
  by_cases h4 : bPar fr to 0 1 = 0
  case neg =>
    rw [if_neg h4]
    simp [kps, allz, h1, h2, h3, h4]
  rw [if_pos h4]
  rw [c4 _ _ _ (by omega) (by omega)]
  simp (disch := first | omega | simp) only [u50_0, u50_1, u50_2, u50_3, u50_4, u50_7, u50_8, u50_9, u50_12, u50_15, u50_16, u50_17, u50_20, u50_23, u50_24, u50_25, u50_28, u50_31, u50_32, u50_33, u50_34, u50_35, u50_36, u50_37, u50_38, u50_39, u50_42, u50_43, u50_44, u50_45, u50_48, u50_51, u50_52, u50_53, u50_56, u50_59, u50_62, u50_65, u50_66, oo, Li_s, Lr_s, Ll_s, On_s, lget, lset, clr_i, clr_r, clr_n, Kc_i, Kc_v, Kc_x, true_and, and_true, List.length_cons, List.length_nil, nlg, isLn, List.all_cons, List.all_nil, Bool.and_true, Bool.not_false, Nat.zero_le, Nat.reduceAdd, Nat.reduceLeDiff, ↓reduceIte, Int.reduceLT, Int.reduceLE, Int.reduceAdd, Int.reduceSub, Int.reduceMul, Int.reduceNeg, Int.reduceToNat, Int.reduceEq, not_true_eq_false, not_false_eq_true, Int.toNat_zero, true_or, or_true]
  by_cases h5 : bPar fr to 0 2 = 0
  case neg =>
    rw [if_neg h5]
    simp [kps, allz, h1, h2, h3, h4, h5]
  rw [if_pos h5]
  rw [c4 _ _ _ (by omega) (by omega)]
  simp (disch := first | omega | simp) only [u50_0, u50_1, u50_2, u50_3, u50_4, u50_7, u50_8, u50_9, u50_12, u50_15, u50_16, u50_17, u50_20, u50_23, u50_24, u50_25, u50_28, u50_31, u50_32, u50_33, u50_34, u50_35, u50_36, u50_37, u50_38, u50_39, u50_42, u50_43, u50_44, u50_45, u50_48, u50_51, u50_52, u50_53, u50_56, u50_59, u50_62, u50_65, u50_66, oo, Li_s, Lr_s, Ll_s, On_s, lget, lset, clr_i, clr_r, clr_n, Kc_i, Kc_v, Kc_x, true_and, and_true, List.length_cons, List.length_nil, nlg, isLn, List.all_cons, List.all_nil, Bool.and_true, Bool.not_false, Nat.zero_le, Nat.reduceAdd, Nat.reduceLeDiff, ↓reduceIte, Int.reduceLT, Int.reduceLE, Int.reduceAdd, Int.reduceSub, Int.reduceMul, Int.reduceNeg, Int.reduceToNat, Int.reduceEq, not_true_eq_false, not_false_eq_true, Int.toNat_zero, true_or, or_true]
  by_cases h6 : bPar fr to 0 3 = 0
  case neg =>
    rw [if_neg h6]
    simp [kps, allz, h1, h2, h3, h4, h5, h6]
  rw [if_pos h6]
  rw [c1 _ _ (by omega)]
  simp (disch := first | omega | simp) only [u50_0, u50_1, u50_2, u50_3, u50_4, u50_7, u50_8, u50_9, u50_12, u50_15, u50_16, u50_17, u50_20, u50_23, u50_24, u50_25, u50_28, u50_31, u50_32, u50_33, u50_34, u50_35, u50_36, u50_37, u50_38, u50_39, u50_42, u50_43, u50_44, u50_45, u50_48, u50_51, u50_52, u50_53, u50_56, u50_59, u50_62, u50_65, u50_66, oo, Li_s, Lr_s, Ll_s, On_s, lget, lset, clr_i, clr_r, clr_n, Kc_i, Kc_v, Kc_x, true_and, and_true, List.length_cons, List.length_nil, nlg, isLn, List.all_cons, List.all_nil, Bool.and_true, Bool.not_false, Nat.zero_le, Nat.reduceAdd, Nat.reduceLeDiff, ↓reduceIte, Int.reduceLT, Int.reduceLE, Int.reduceAdd, Int.reduceSub, Int.reduceMul, Int.reduceNeg, Int.reduceToNat, Int.reduceEq, not_true_eq_false, not_false_eq_true, Int.toNat_zero, true_or, or_true]
  by_cases h7 : bLea ld fr to 1 = 0
  case neg =>
    rw [if_pos h7]
    simp [kps, allz, h1, h2, h3, h4, h5, h6, h7]
  rw [if_neg (fun q => q h7)]
  rw [c2 _ _ (by omega)]
  simp (disch := first | omega | simp) only [u50_0, u50_1, u50_2, u50_3, u50_4, u50_7, u50_8, u50_9, u50_12, u50_15, u50_16, u50_17, u50_20, u50_23, u50_24, u50_25, u50_28, u50_31, u50_32, u50_33, u50_34, u50_35, u50_36, u50_37, u50_38, u50_39, u50_42, u50_43, u50_44, u50_45, u50_48, u50_51, u50_52, u50_53, u50_56, u50_59, u50_62, u50_65, u50_66, oo, Li_s, Lr_s, Ll_s, On_s, lget, lset, clr_i, clr_r, clr_n, Kc_i, Kc_v, Kc_x, true_and, and_true, List.length_cons, List.length_nil, nlg, isLn, List.all_cons, List.all_nil, Bool.and_true, Bool.not_false, Nat.zero_le, Nat.reduceAdd, Nat.reduceLeDiff, ↓reduceIte, Int.reduceLT, Int.reduceLE, Int.reduceAdd, Int.reduceSub, Int.reduceMul, Int.reduceNeg, Int.reduceToNat, Int.reduceEq, not_true_eq_false, not_false_eq_true, Int.toNat_zero, true_or, or_true]
  by_cases h8 : bSev sv fr to 1 = 0
  case neg =>
    rw [if_pos h8]
    simp [kps, allz, h1, h2, h3, h4, h5, h6, h7, h8]
  rw [if_neg (fun q => q h8)]
  rw [c3 _ _ (by omega)]
  simp (disch := first | omega | simp) only [u50_0, u50_1, u50_2, u50_3, u50_4, u50_7, u50_8, u50_9, u50_12, u50_15, u50_16, u50_17, u50_20, u50_23, u50_24, u50_25, u50_28, u50_31, u50_32, u50_33, u50_34, u50_35, u50_36, u50_37, u50_38, u50_39, u50_42, u50_43, u50_44, u50_45, u50_48, u50_51, u50_52, u50_53, u50_56, u50_59, u50_62, u50_65, u50_66, oo, Li_s, Lr_s, Ll_s, On_s, lget, lset, clr_i, clr_r, clr_n, Kc_i, Kc_v, Kc_x, true_and, and_true, List.length_cons, List.length_nil, nlg, isLn, List.all_cons, List.all_nil, Bool.and_true, Bool.not_false, Nat.zero_le, Nat.reduceAdd, Nat.reduceLeDiff, ↓reduceIte, Int.reduceLT, Int.reduceLE, Int.reduceAdd, Int.reduceSub, Int.reduceMul, Int.reduceNeg, Int.reduceToNat, Int.reduceEq, not_true_eq_false, not_false_eq_true, Int.toNat_zero, true_or, or_true]
  by_cases h9 : bStp fr to fl tl 1 = 0
  case neg =>
    rw [if_neg h9]
    simp [kps, allz, h1, h2, h3, h4, h5, h6, h7, h8, h9]
  rw [if_pos h9]
  rw [c4 _ _ _ (by omega) (by omega)]
  simp (disch := first | omega | simp) only [u50_0, u50_1, u50_2, u50_3, u50_4, u50_7, u50_8, u50_9, u50_12, u50_15, u50_16, u50_17, u50_20, u50_23, u50_24, u50_25, u50_28, u50_31, u50_32, u50_33, u50_34, u50_35, u50_36, u50_37, u50_38, u50_39, u50_42, u50_43, u50_44, u50_45, u50_48, u50_51, u50_52, u50_53, u50_56, u50_59, u50_62, u50_65, u50_66, oo, Li_s, Lr_s, Ll_s, On_s, lget, lset, clr_i, clr_r, clr_n, Kc_i, Kc_v, Kc_x, true_and, and_true, List.length_cons, List.length_nil, nlg, isLn, List.all_cons, List.all_nil, Bool.and_true, Bool.not_false, Nat.zero_le, Nat.reduceAdd, Nat.reduceLeDiff, ↓reduceIte, Int.reduceLT, Int.reduceLE, Int.reduceAdd, Int.reduceSub, Int.reduceMul, Int.reduceNeg, Int.reduceToNat, Int.reduceEq, not_true_eq_false, not_false_eq_true, Int.toNat_zero, true_or, or_true]
  by_cases h10 : bPar fr to 1 2 = 0
  case neg =>
    rw [if_neg h10]
    simp [kps, allz, h1, h2, h3, h4, h5, h6, h7, h8, h9, h10]
  rw [if_pos h10]
  rw [c4 _ _ _ (by omega) (by omega)]
  simp (disch := first | omega | simp) only [u50_0, u50_1, u50_2, u50_3, u50_4, u50_7, u50_8, u50_9, u50_12, u50_15, u50_16, u50_17, u50_20, u50_23, u50_24, u50_25, u50_28, u50_31, u50_32, u50_33, u50_34, u50_35, u50_36, u50_37, u50_38, u50_39, u50_42, u50_43, u50_44, u50_45, u50_48, u50_51, u50_52, u50_53, u50_56, u50_59, u50_62, u50_65, u50_66, oo, Li_s, Lr_s, Ll_s, On_s, lget, lset, clr_i, clr_r, clr_n, Kc_i, Kc_v, Kc_x, true_and, and_true, List.length_cons, List.length_nil, nlg, isLn, List.all_cons, List.all_nil, Bool.and_true, Bool.not_false, Nat.zero_le, Nat.reduceAdd, Nat.reduceLeDiff, ↓reduceIte, Int.reduceLT, Int.reduceLE, Int.reduceAdd, Int.reduceSub, Int.reduceMul, Int.reduceNeg, Int.reduceToNat, Int.reduceEq, not_true_eq_false, not_false_eq_true, Int.toNat_zero, true_or, or_true]
  by_cases h11 : bPar fr to 1 3 = 0
  case neg =>
    rw [if_neg h11]
    simp [kps, allz, h1, h2, h3, h4, h5, h6, h7, h8, h9, h10, h11]
  rw [if_pos h11]
  rw [c1 _ _ (by omega)]
  simp (disch := first | omega | simp) only [u50_0, u50_1, u50_2, u50_3, u50_4, u50_7, u50_8, u50_9, u50_12, u50_15, u50_16, u50_17, u50_20, u50_23, u50_24, u50_25, u50_28, u50_31, u50_32, u50_33, u50_34, u50_35, u50_36, u50_37, u50_38, u50_39, u50_42, u50_43, u50_44, u50_45, u50_48, u50_51, u50_52, u50_53, u50_56, u50_59, u50_62, u50_65, u50_66, oo, Li_s, Lr_s, Ll_s, On_s, lget, lset, clr_i, clr_r, clr_n, Kc_i, Kc_v, Kc_x, true_and, and_true, List.length_cons, List.length_nil, nlg, isLn, List.all_cons, List.all_nil, Bool.and_true, Bool.not_false, Nat.zero_le, Nat.reduceAdd, Nat.reduceLeDiff, ↓reduceIte, Int.reduceLT, Int.reduceLE, Int.reduceAdd, Int.reduceSub, Int.reduceMul, Int.reduceNeg, Int.reduceToNat, Int.reduceEq, not_true_eq_false, not_false_eq_true, Int.toNat_zero, true_or, or_true]
  by_cases h12 : bLea ld fr to 2 = 0
  case neg =>
    rw [if_pos h12]
    simp [kps, allz, h1, h2, h3, h4, h5, h6, h7, h8, h9, h10, h11, h12]
  rw [if_neg (fun q => q h12)]
  rw [c2 _ _ (by omega)]
  simp (disch := first | omega | simp) only [u50_0, u50_1, u50_2, u50_3, u50_4, u50_7, u50_8, u50_9, u50_12, u50_15, u50_16, u50_17, u50_20, u50_23, u50_24, u50_25, u50_28, u50_31, u50_32, u50_33, u50_34, u50_35, u50_36, u50_37, u50_38, u50_39, u50_42, u50_43, u50_44, u50_45, u50_48, u50_51, u50_52, u50_53, u50_56, u50_59, u50_62, u50_65, u50_66, oo, Li_s, Lr_s, Ll_s, On_s, lget, lset, clr_i, clr_r, clr_n, Kc_i, Kc_v, Kc_x, true_and, and_true, List.length_cons, List.length_nil, nlg, isLn, List.all_cons, List.all_nil, Bool.and_true, Bool.not_false, Nat.zero_le, Nat.reduceAdd, Nat.reduceLeDiff, ↓reduceIte, Int.reduceLT, Int.reduceLE, Int.reduceAdd, Int.reduceSub, Int.reduceMul, Int.reduceNeg, Int.reduceToNat, Int.reduceEq, not_true_eq_false, not_false_eq_true, Int.toNat_zero, true_or, or_true]
  by_cases h13 : bSev sv fr to 2 = 0
  case neg =>
    rw [if_pos h13]
    simp [kps, allz, h1, h2, h3, h4, h5, h6, h7, h8, h9, h10, h11, h12, h13]
  rw [if_neg (fun q => q h13)]
  rw [c3 _ _ (by omega)]
  simp (disch := first | omega | simp) only [u50_0, u50_1, u50_2, u50_3, u50_4, u50_7, u50_8, u50_9, u50_12, u50_15, u50_16, u50_17, u50_20, u50_23, u50_24, u50_25, u50_28, u50_31, u50_32, u50_33, u50_34, u50_35, u50_36, u50_37, u50_38, u50_39, u50_42, u50_43, u50_44, u50_45, u50_48, u50_51, u50_52, u50_53, u50_56, u50_59, u50_62, u50_65, u50_66, oo, Li_s, Lr_s, Ll_s, On_s, lget, lset, clr_i, clr_r, clr_n, Kc_i, Kc_v, Kc_x, true_and, and_true, List.length_cons, List.length_nil, nlg, isLn, List.all_cons, List.all_nil, Bool.and_true, Bool.not_false, Nat.zero_le, Nat.reduceAdd, Nat.reduceLeDiff, ↓reduceIte, Int.reduceLT, Int.reduceLE, Int.reduceAdd, Int.reduceSub, Int.reduceMul, Int.reduceNeg, Int.reduceToNat, Int.reduceEq, not_true_eq_false, not_false_eq_true, Int.toNat_zero, true_or, or_true]
  by_cases h14 : bStp fr to fl tl 2 = 0
  case neg =>
    rw [if_neg h14]
    simp [kps, allz, h1, h2, h3, h4, h5, h6, h7, h8, h9, h10, h11, h12, h13, h14]
  rw [if_pos h14]
  rw [c4 _ _ _ (by omega) (by omega)]
  simp (disch := first | omega | simp) only [u50_0, u50_1, u50_2, u50_3, u50_4, u50_7, u50_8, u50_9, u50_12, u50_15, u50_16, u50_17, u50_20, u50_23, u50_24, u50_25, u50_28, u50_31, u50_32, u50_33, u50_34, u50_35, u50_36, u50_37, u50_38, u50_39, u50_42, u50_43, u50_44, u50_45, u50_48, u50_51, u50_52, u50_53, u50_56, u50_59, u50_62, u50_65, u50_66, oo, Li_s, Lr_s, Ll_s, On_s, lget, lset, clr_i, clr_r, clr_n, Kc_i, Kc_v, Kc_x, true_and, and_true, List.length_cons, List.length_nil, nlg, isLn, List.all_cons, List.all_nil, Bool.and_true, Bool.not_false, Nat.zero_le, Nat.reduceAdd, Nat.reduceLeDiff, ↓reduceIte, Int.reduceLT, Int.reduceLE, Int.reduceAdd, Int.reduceSub, Int.reduceMul, Int.reduceNeg, Int.reduceToNat, Int.reduceEq, not_true_eq_false, not_false_eq_true, Int.toNat_zero, true_or, or_true]
  by_cases h15 : bPar fr to 2 3 = 0
  case neg =>
    rw [if_neg h15]
    simp [kps, allz, h1, h2, h3, h4, h5, h6, h7, h8, h9, h10, h11, h12, h13, h14, h15]
  rw [if_pos h15]
  rw [c1 _ _ (by omega)]
  simp (disch := first | omega | simp) only [u50_0, u50_1, u50_2, u50_3, u50_4, u50_7, u50_8, u50_9, u50_12, u50_15, u50_16, u50_17, u50_20, u50_23, u50_24, u50_25, u50_28, u50_31, u50_32, u50_33, u50_34, u50_35, u50_36, u50_37, u50_38, u50_39, u50_42, u50_43, u50_44, u50_45, u50_48, u50_51, u50_52, u50_53, u50_56, u50_59, u50_62, u50_65, u50_66, oo, Li_s, Lr_s, Ll_s, On_s, lget, lset, clr_i, clr_r, clr_n, Kc_i, Kc_v, Kc_x, true_and, and_true, List.length_cons, List.length_nil, nlg, isLn, List.all_cons, List.all_nil, Bool.and_true, Bool.not_false, Nat.zero_le, Nat.reduceAdd, Nat.reduceLeDiff, ↓reduceIte, Int.reduceLT, Int.reduceLE, Int.reduceAdd, Int.reduceSub, Int.reduceMul, Int.reduceNeg, Int.reduceToNat, Int.reduceEq, not_true_eq_false, not_false_eq_true, Int.toNat_zero, true_or, or_true]
  by_cases h16 : bLea ld fr to 3 = 0
  case neg =>
    rw [if_pos h16]
    simp [kps, allz, h1, h2, h3, h4, h5, h6, h7, h8, h9, h10, h11, h12, h13, h14, h15, h16]
  rw [if_neg (fun q => q h16)]
  rw [c2 _ _ (by omega)]
  simp (disch := first | omega | simp) only [u50_0, u50_1, u50_2, u50_3, u50_4, u50_7, u50_8, u50_9, u50_12, u50_15, u50_16, u50_17, u50_20, u50_23, u50_24, u50_25, u50_28, u50_31, u50_32, u50_33, u50_34, u50_35, u50_36, u50_37, u50_38, u50_39, u50_42, u50_43, u50_44, u50_45, u50_48, u50_51, u50_52, u50_53, u50_56, u50_59, u50_62, u50_65, u50_66, oo, Li_s, Lr_s, Ll_s, On_s, lget, lset, clr_i, clr_r, clr_n, Kc_i, Kc_v, Kc_x, true_and, and_true, List.length_cons, List.length_nil, nlg, isLn, List.all_cons, List.all_nil, Bool.and_true, Bool.not_false, Nat.zero_le, Nat.reduceAdd, Nat.reduceLeDiff, ↓reduceIte, Int.reduceLT, Int.reduceLE, Int.reduceAdd, Int.reduceSub, Int.reduceMul, Int.reduceNeg, Int.reduceToNat, Int.reduceEq, not_true_eq_false, not_false_eq_true, Int.toNat_zero, true_or, or_true]
  by_cases h17 : bSev sv fr to 3 = 0
  case neg =>
    rw [if_pos h17]
    simp [kps, allz, h1, h2, h3, h4, h5, h6, h7, h8, h9, h10, h11, h12, h13, h14, h15, h16, h17]
  rw [if_neg (fun q => q h17)]
  rw [c3 _ _ (by omega)]
  simp (disch := first | omega | simp) only [u50_0, u50_1, u50_2, u50_3, u50_4, u50_7, u50_8, u50_9, u50_12, u50_15, u50_16, u50_17, u50_20, u50_23, u50_24, u50_25, u50_28, u50_31, u50_32, u50_33, u50_34, u50_35, u50_36, u50_37, u50_38, u50_39, u50_42, u50_43, u50_44, u50_45, u50_48, u50_51, u50_52, u50_53, u50_56, u50_59, u50_62, u50_65, u50_66, oo, Li_s, Lr_s, Ll_s, On_s, lget, lset, clr_i, clr_r, clr_n, Kc_i, Kc_v, Kc_x, true_and, and_true, List.length_cons, List.length_nil, nlg, isLn, List.all_cons, List.all_nil, Bool.and_true, Bool.not_false, Nat.zero_le, Nat.reduceAdd, Nat.reduceLeDiff, ↓reduceIte, Int.reduceLT, Int.reduceLE, Int.reduceAdd, Int.reduceSub, Int.reduceMul, Int.reduceNeg, Int.reduceToNat, Int.reduceEq, not_true_eq_false, not_false_eq_true, Int.toNat_zero, true_or, or_true]
  by_cases h18 : bStp fr to fl tl 3 = 0
  case neg =>
    rw [if_neg h18]
    simp [kps, allz, h1, h2, h3, h4, h5, h6, h7, h8, h9, h10, h11, h12, h13, h14, h15, h16, h17, h18]
  rw [if_pos h18]
  simp [kps, allz, h1, h2, h3, h4, h5, h6, h7, h8, h9, h10, h11, h12, h13, h14, h15, h16, h17, h18]
/-- distance(): how far the three upper voices go -/
def dst (fr to : Int → Int) : Int := ((to 0 - fr 0).natAbs : Int) + ((to 1 - fr 1).natAbs : Int) + ((to 2 - fr 2).natAbs : Int)
theorem dst_in (sF : sIn fr) (sT : sIn to) : 0 ≤ dst fr to ∧ dst fr to ≤ 381 := by
  have a0 := sF 0 (by omega) (by omega)
  have a1 := sF 1 (by omega) (by omega)
  have a2 := sF 2 (by omega) (by omega)
  have b0 := sT 0 (by omega) (by omega)
  have b1 := sT 1 (by omega) (by omega)
  have b2 := sT 2 (by omega) (by omega)
  unfold dst
  omega
theorem r_distance (hm : m = 5 ∨ m = 16) (hF : MvF σ m ld sv fr fl) (hT : MvT σ m to tl) (sF : sIn fr) (sT : sIn to) : Rn d 49 [vr 8 m] σ (.inl (some (vi (dst fr to)))) σ := by
  have a0 := sF 0 (by omega) (by omega)
  have a1 := sF 1 (by omega) (by omega)
  have a2 := sF 2 (by omega) (by omega)
  have b0 := sT 0 (by omega) (by omega)
  have b1 := sT 1 (by omega) (by omega)
  have b2 := sT 2 (by omega) (by omega)
  have f0 := (hF.2.2 0 (by omega) (by omega)).1
  have f1 := (hF.2.2 1 (by omega) (by omega)).1
  have f2 := (hF.2.2 2 (by omega) (by omega)).1
  have t0 := (hT 0 (by omega) (by omega)).1
  have t1 := (hT 1 (by omega) (by omega)).1
  have t2 := (hT 2 (by omega) (by omega)).1
  refine Rn.of ?_
  rw [e49]
  rcases hm with rfl | rfl
  · simp only [Nat.reduceAdd, Int.reduceToNat] at f0 f1 f2 t0 t1 t2
    simp (disch := first | omega | simp) only [u49_0, u49_1, u49_2, u49_3, u49_4, u49_5, u49_6, u49_9, u49_10, u49_11, u49_14, u49_15, u49_16, u49_17, u49_20, u49_21, u49_22, u49_23, u49_26, u49_27, u49_28, u49_31, u49_34, u49_35, o_8_0, fv_8_0_0, fv_8_0_1, fv_8_0_2, fv_8_0_3, fv_8_0_4, rf_8_0_4, o_8_1, fv_8_1_0, fv_8_1_1, rf_8_1_1, o_8_4, fv_8_4_0, fv_8_4_1, fv_8_4_2, fv_8_4_3, fv_8_4_4, fv_8_4_5, fv_8_4_6, rf_8_4_6, o_8_5, fv_8_5_0, fv_8_5_1, fv_8_5_2, fv_8_5_3, fv_8_5_4, rf_8_5_4, fv_8_5_5, rf_8_5_5, o_8_15, fv_8_15_0, fv_8_15_1, fv_8_15_2, fv_8_15_3, fv_8_15_4, rf_8_15_4, o_8_16, fv_8_16_0, fv_8_16_1, fv_8_16_2, fv_8_16_3, fv_8_16_4, rf_8_16_4, fv_8_16_5, rf_8_16_5, ia_8_2, is_8_2, ia_8_6, is_8_6, ia_8_7, is_8_7, ia_8_8, is_8_8, ia_8_9, is_8_9, ia_8_14, is_8_14, ia_8_17, is_8_17, ia_8_18, is_8_18, ia_8_19, is_8_19, ia_8_20, is_8_20, ia_8_21, is_8_21, ia_8_22, is_8_22, ia_8_23, is_8_23, iz_8_12, iz_8_13, aa_3, ar_3, aa_10, ar_10, aa_11, ar_11, ia_10, is_10, ia_11, is_11, f0, f1, f2, t0, t1, t2, Li_s, Lr_s, Ll_s, On_s, lget, lset, clr_i, clr_r, clr_n, Kc_i, Kc_v, Kc_x, true_and, and_true, List.length_cons, List.length_nil, nlg, isLn, List.all_cons, List.all_nil, Bool.and_true, Bool.not_false, Nat.zero_le, Nat.reduceAdd, Nat.reduceLeDiff, ↓reduceIte, Int.reduceLT, Int.reduceLE, Int.reduceAdd, Int.reduceSub, Int.reduceMul, Int.reduceNeg, Int.reduceToNat, Int.reduceEq, not_true_eq_false, not_false_eq_true, Int.toNat_zero, true_or, or_true]
    exact fi (by unfold dst; omega)
  · simp only [Nat.reduceAdd, Int.reduceToNat] at f0 f1 f2 t0 t1 t2
    simp (disch := first | omega | simp) only [u49_0, u49_1, u49_2, u49_3, u49_4, u49_5, u49_6, u49_9, u49_10, u49_11, u49_14, u49_15, u49_16, u49_17, u49_20, u49_21, u49_22, u49_23, u49_26, u49_27, u49_28, u49_31, u49_34, u49_35, o_8_0, fv_8_0_0, fv_8_0_1, fv_8_0_2, fv_8_0_3, fv_8_0_4, rf_8_0_4, o_8_1, fv_8_1_0, fv_8_1_1, rf_8_1_1, o_8_4, fv_8_4_0, fv_8_4_1, fv_8_4_2, fv_8_4_3, fv_8_4_4, fv_8_4_5, fv_8_4_6, rf_8_4_6, o_8_5, fv_8_5_0, fv_8_5_1, fv_8_5_2, fv_8_5_3, fv_8_5_4, rf_8_5_4, fv_8_5_5, rf_8_5_5, o_8_15, fv_8_15_0, fv_8_15_1, fv_8_15_2, fv_8_15_3, fv_8_15_4, rf_8_15_4, o_8_16, fv_8_16_0, fv_8_16_1, fv_8_16_2, fv_8_16_3, fv_8_16_4, rf_8_16_4, fv_8_16_5, rf_8_16_5, ia_8_2, is_8_2, ia_8_6, is_8_6, ia_8_7, is_8_7, ia_8_8, is_8_8, ia_8_9, is_8_9, ia_8_14, is_8_14, ia_8_17, is_8_17, ia_8_18, is_8_18, ia_8_19, is_8_19, ia_8_20, is_8_20, ia_8_21, is_8_21, ia_8_22, is_8_22, ia_8_23, is_8_23, iz_8_12, iz_8_13, aa_3, ar_3, aa_10, ar_10, aa_11, ar_11, ia_10, is_10, ia_11, is_11, f0, f1, f2, t0, t1, t2, Li_s, Lr_s, Ll_s, On_s, lget, lset, clr_i, clr_r, clr_n, Kc_i, Kc_v, Kc_x, true_and, and_true, List.length_cons, List.length_nil, nlg, isLn, List.all_cons, List.all_nil, Bool.and_true, Bool.not_false, Nat.zero_le, Nat.reduceAdd, Nat.reduceLeDiff, ↓reduceIte, Int.reduceLT, Int.reduceLE, Int.reduceAdd, Int.reduceSub, Int.reduceMul, Int.reduceNeg, Int.reduceToNat, Int.reduceEq, not_true_eq_false, not_false_eq_true, Int.toNat_zero, true_or, or_true]
    exact fi (by unfold dst; omega)
end MV
