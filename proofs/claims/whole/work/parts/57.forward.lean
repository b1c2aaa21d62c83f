/-! FROM THE FRONT: which placements are reached; soundOf, shareOf; the class's side -/
/-- is f not 0 somewhere from p on -/
def anR (f : Int → Int) : Nat → Int → Int
  | 0, _ => 0
  | r + 1, p => if f p = 0 then anR f r (p + 1) else 1
theorem anR_s (f : Int → Int) (r : Nat) (p : Int) : anR f (r + 1) p = if f p = 0 then anR f r (p + 1) else 1 := rfl
theorem anR_in (f : Int → Int) : ∀ (r : Nat) (p : Int), anR f r p = 0 ∨ anR f r p = 1
  | 0, _ => Or.inl rfl
  | r + 1, p => by
    rw [anR_s]
    split
    · exact anR_in f r (p + 1)
    · exact Or.inr rfl
/-- the placements that are reached from R in one move -/
def rcS (R : Int → Int) (kp : Int → Int → Int) (N N' : Nat) (q : Int) : Int := if q < N' then anR (fun p => if R p = 0 then 0 else kp p q) N 0 else 0
theorem rcS_in (R : Int → Int) (kp : Int → Int → Int) (N N' : Nat) (q : Int) : rcS R kp N N' q = 0 ∨ rcS R kp N N' q = 1 := by
  unfold rcS
  split
  · exact anR_in _ _ _
  · exact Or.inl rfl
/-- the placements of chord i that are reached -/
def rcA (N : Nat → Nat) (kp : Nat → Int → Int → Int) : Nat → Int → Int
  | 0, p => if p < N 0 then 1 else 0
  | i + 1, q => rcS (rcA N kp i) (kp i) (N i) (N (i + 1)) q
theorem rcA_in (N : Nat → Nat) (kp : Nat → Int → Int → Int) : ∀ (i : Nat) (p : Int), rcA N kp i p = 0 ∨ rcA N kp i p = 1
  | 0, p => by
    simp only [rcA]
    split
    · exact Or.inr rfl
    · exact Or.inl rfl
  | i + 1, q => rcS_in _ _ _ _ _
/-- the first chord, from i on and at most r further, none of whose placements is reached -/
def fuR (N : Nat → Nat) (kp : Nat → Int → Int → Int) : Nat → Nat → Nat
  | 0, i => i
  | r + 1, i => if anR (rcA N kp i) 64 0 = 0 then i else fuR N kp r (i + 1)
theorem fuR_s (N : Nat → Nat) (kp : Nat → Int → Int → Int) (r i : Nat) : fuR N kp (r + 1) i = if anR (rcA N kp i) 64 0 = 0 then i else fuR N kp r (i + 1) := rfl
def frM : Nat → Nat → Nat → Prop := fun g j _ => g = 8 ∧ 5 ≤ j ∧ j ≤ 9
def frQ : Nat → Nat → Nat → Prop := fun g j _ => g = 8 ∧ ((5 ≤ j ∧ j ≤ 9) ∨ j = 13)
def frN : Nat → Nat → Nat → Prop := fun g j _ => g = 8 ∧ ((5 ≤ j ∧ j ≤ 9) ∨ j = 12 ∨ j = 13)
/-- the row of what is reached -/
def RcIs (σ : Sg) (R : Int → Int) : Prop := ∀ p : Int, 0 ≤ p → p < 64 → σ 8 12 p.toNat = R p ∧ (R p = 0 ∨ R p = 1)
section FW
variable {d : Nat} {σ : Sg} {T : Nat → List (Int × Int)} {N : Nat → Nat} {R : Int → Int} {p q : Int} {n i : Nat} {Q : Rs → Sg → Prop}
theorem l_any (hR : RcIs σ R) : ∀ (r : Nat) (p : Int), 0 ≤ p → p + r = 64 → (Wx d 61 2 [some (vr 8 4), some (vi p)] [] σ Q ↔ Q (.inl (some (vi (anR R r p)))) σ) := by
  intro r
  induction r with
  | zero =>
    intro p h0 h1
    rw [u61_2]
    simp (disch := first | omega | simp) only [u61_0, u61_1, u61_3, u61_5, u61_8, u61_9, u61_12, u61_13, u61_14, u61_17, u61_18, u61_19, u61_22, u61_25, u61_26, o_8_0, fv_8_0_0, fv_8_0_1, fv_8_0_2, fv_8_0_3, fv_8_0_4, rf_8_0_4, o_8_1, fv_8_1_0, fv_8_1_1, rf_8_1_1, o_8_4, fv_8_4_0, fv_8_4_1, fv_8_4_2, fv_8_4_3, fv_8_4_4, fv_8_4_5, fv_8_4_6, rf_8_4_6, o_8_5, fv_8_5_0, fv_8_5_1, fv_8_5_2, fv_8_5_3, fv_8_5_4, rf_8_5_4, fv_8_5_5, rf_8_5_5, o_8_15, fv_8_15_0, fv_8_15_1, fv_8_15_2, fv_8_15_3, fv_8_15_4, rf_8_15_4, o_8_16, fv_8_16_0, fv_8_16_1, fv_8_16_2, fv_8_16_3, fv_8_16_4, rf_8_16_4, fv_8_16_5, rf_8_16_5, ia_8_2, is_8_2, ia_8_6, is_8_6, ia_8_7, is_8_7, ia_8_8, is_8_8, ia_8_9, is_8_9, ia_8_14, is_8_14, ia_8_17, is_8_17, ia_8_18, is_8_18, ia_8_19, is_8_19, ia_8_20, is_8_20, ia_8_21, is_8_21, ia_8_22, is_8_22, ia_8_23, is_8_23, iz_8_12, iz_8_13, aa_3, ar_3, aa_10, ar_10, aa_11, ar_11, ia_10, is_10, ia_11, is_11, Li_s, Lr_s, Ll_s, On_s, lget, lset, clr_i, clr_r, clr_n, Kc_i, Kc_v, Kc_x, true_and, and_true, List.length_cons, List.length_nil, nlg, isLn, List.all_cons, List.all_nil, Bool.and_true, Bool.not_false, Nat.zero_le, Nat.reduceAdd, Nat.reduceLeDiff, ↓reduceIte, Int.reduceLT, Int.reduceLE, Int.reduceAdd, Int.reduceSub, Int.reduceMul, Int.reduceNeg, Int.reduceToNat, Int.reduceEq, not_true_eq_false, not_false_eq_true, Int.toNat_zero, true_or, or_true]
    rw [if_pos (by omega)]
    rfl
  | succ r ih =>
    intro p h0 h1
    obtain ⟨e1, c1⟩ := hR p h0 (by omega)
    rw [u61_2]
    simp (disch := first | omega | simp) only [u61_0, u61_1, u61_3, u61_5, u61_8, u61_9, u61_12, u61_13, u61_14, u61_17, u61_18, u61_19, u61_22, u61_25, u61_26, o_8_0, fv_8_0_0, fv_8_0_1, fv_8_0_2, fv_8_0_3, fv_8_0_4, rf_8_0_4, o_8_1, fv_8_1_0, fv_8_1_1, rf_8_1_1, o_8_4, fv_8_4_0, fv_8_4_1, fv_8_4_2, fv_8_4_3, fv_8_4_4, fv_8_4_5, fv_8_4_6, rf_8_4_6, o_8_5, fv_8_5_0, fv_8_5_1, fv_8_5_2, fv_8_5_3, fv_8_5_4, rf_8_5_4, fv_8_5_5, rf_8_5_5, o_8_15, fv_8_15_0, fv_8_15_1, fv_8_15_2, fv_8_15_3, fv_8_15_4, rf_8_15_4, o_8_16, fv_8_16_0, fv_8_16_1, fv_8_16_2, fv_8_16_3, fv_8_16_4, rf_8_16_4, fv_8_16_5, rf_8_16_5, ia_8_2, is_8_2, ia_8_6, is_8_6, ia_8_7, is_8_7, ia_8_8, is_8_8, ia_8_9, is_8_9, ia_8_14, is_8_14, ia_8_17, is_8_17, ia_8_18, is_8_18, ia_8_19, is_8_19, ia_8_20, is_8_20, ia_8_21, is_8_21, ia_8_22, is_8_22, ia_8_23, is_8_23, iz_8_12, iz_8_13, aa_3, ar_3, aa_10, ar_10, aa_11, ar_11, ia_10, is_10, ia_11, is_11, e1, Li_s, Lr_s, Ll_s, On_s, lget, lset, clr_i, clr_r, clr_n, Kc_i, Kc_v, Kc_x, true_and, and_true, List.length_cons, List.length_nil, nlg, isLn, List.all_cons, List.all_nil, Bool.and_true, Bool.not_false, Nat.zero_le, Nat.reduceAdd, Nat.reduceLeDiff, ↓reduceIte, Int.reduceLT, Int.reduceLE, Int.reduceAdd, Int.reduceSub, Int.reduceMul, Int.reduceNeg, Int.reduceToNat, Int.reduceEq, not_true_eq_false, not_false_eq_true, Int.toNat_zero, true_or, or_true]
    rw [if_neg (by omega), anR_s]
    by_cases h : R p = 0
    · rw [if_pos h, if_pos h, ih (p + 1) (by omega) (by omega)]
    · rw [if_neg h, if_neg h]
theorem r_any (hR : RcIs σ R) : Rn d 61 [vr 8 4] σ (.inl (some (vi (anR R 64 0)))) σ := by
  refine Rn.of ?_
  rw [e61]
  simp (disch := first | omega | simp) only [u61_0, u61_1, u61_3, u61_5, u61_8, u61_9, u61_12, u61_13, u61_14, u61_17, u61_18, u61_19, u61_22, u61_25, u61_26, Li_s, Lr_s, Ll_s, On_s, lget, lset, clr_i, clr_r, clr_n, Kc_i, Kc_v, Kc_x, true_and, and_true, List.length_cons, List.length_nil, nlg, isLn, List.all_cons, List.all_nil, Bool.and_true, Bool.not_false, Nat.zero_le, Nat.reduceAdd, Nat.reduceLeDiff, ↓reduceIte, Int.reduceLT, Int.reduceLE, Int.reduceAdd, Int.reduceSub, Int.reduceMul, Int.reduceNeg, Int.reduceToNat, Int.reduceEq, not_true_eq_false, not_false_eq_true, Int.toNat_zero, true_or, or_true]
  exact (l_any hR 64 0 (by omega) (by omega)).mpr ⟨rfl, rfl⟩
theorem l_reach (hi : i + 1 < 8) (hG : ChG σ i (T i) (N i)) (hG' : ChG σ (i + 1) (T (i + 1)) (N (i + 1))) (hq : 0 ≤ q ∧ q < N (i + 1)) (hR : RcIs σ R) : ∀ (r : Nat) (p : Int) (σ1 : Sg), 0 ≤ p → p + r = (N i : Int) → MvT σ1 5 (sO σ (i + 1) q) (ltA (T (i + 1)) (sO σ (i + 1) q)) → Fr frM σ σ1 → (∀ σ', Fr frM σ σ' → Q (.inl (some (vi (anR (fun p => if R p = 0 then 0 else kpA σ T i p q) r p)))) σ') → Wx (d + 3) 63 12 [some (vr 8 4), some (vr i 0), some (vr (i + 1) 0), some (vi q), some (vi p)] [] σ1 Q := by
  have hN := hG.2.2.2.1
  intro r
  induction r with
  | zero =>
    intro p σ1 h0 h1 hT hF k
    have f8 : Fr G8 σ σ1 := hF.mono (fun g j k q => by simp only [frM, G8] at q ⊢; omega)
    have e1 := (hG.k8 (by omega) f8).2.2.1
    rw [u63_12]
    simp (disch := first | omega | simp) only [u63_0, u63_1, u63_4, u63_5, u63_6, u63_9, u63_10, u63_14, u63_15, u63_18, u63_21, u63_22, u63_25, u63_27, u63_28, u63_31, u63_32, u63_35, u63_36, u63_38, u63_41, u63_42, u63_45, u63_48, u63_51, u63_52, u63_53, u63_56, u63_59, u63_60, o_8_0, fv_8_0_0, fv_8_0_1, fv_8_0_2, fv_8_0_3, fv_8_0_4, rf_8_0_4, o_8_1, fv_8_1_0, fv_8_1_1, rf_8_1_1, o_8_4, fv_8_4_0, fv_8_4_1, fv_8_4_2, fv_8_4_3, fv_8_4_4, fv_8_4_5, fv_8_4_6, rf_8_4_6, o_8_5, fv_8_5_0, fv_8_5_1, fv_8_5_2, fv_8_5_3, fv_8_5_4, rf_8_5_4, fv_8_5_5, rf_8_5_5, o_8_15, fv_8_15_0, fv_8_15_1, fv_8_15_2, fv_8_15_3, fv_8_15_4, rf_8_15_4, o_8_16, fv_8_16_0, fv_8_16_1, fv_8_16_2, fv_8_16_3, fv_8_16_4, rf_8_16_4, fv_8_16_5, rf_8_16_5, ia_8_2, is_8_2, ia_8_6, is_8_6, ia_8_7, is_8_7, ia_8_8, is_8_8, ia_8_9, is_8_9, ia_8_14, is_8_14, ia_8_17, is_8_17, ia_8_18, is_8_18, ia_8_19, is_8_19, ia_8_20, is_8_20, ia_8_21, is_8_21, ia_8_22, is_8_22, ia_8_23, is_8_23, iz_8_12, iz_8_13, aa_3, ar_3, aa_10, ar_10, aa_11, ar_11, ia_10, is_10, ia_11, is_11, o_c0, fv_c0_0, fv_c0_1, fv_c0_2, fv_c0_3, fv_c0_4, fv_c0_5, fv_c0_6, fv_c0_7, rf_c0_7, fv_c0_8, rf_c0_8, fv_c0_9, rf_c0_9, fv_c0_10, rf_c0_10, fv_c0_11, rf_c0_11, fv_c0_12, rf_c0_12, fv_c0_13, rf_c0_13, fv_c0_14, rf_c0_14, fv_c0_15, rf_c0_15, fv_c0_16, rf_c0_16, fv_c0_17, rf_c0_17, o_c1, fv_c1_0, fv_c1_1, fv_c1_2, rf_c1_2, o_c4, fv_c4_0, fv_c4_1, fv_c4_2, rf_c4_2, ia_c2, is_c2, ia_c3, is_c3, ia_c5, is_c5, ia_c6, is_c6, ia_c7, is_c7, ia_c8, is_c8, ia_c9, is_c9, ia_c10, is_c10, ia_c11, is_c11, e1, Li_s, Lr_s, Ll_s, On_s, lget, lset, clr_i, clr_r, clr_n, Kc_i, Kc_v, Kc_x, true_and, and_true, List.length_cons, List.length_nil, nlg, isLn, List.all_cons, List.all_nil, Bool.and_true, Bool.not_false, Nat.zero_le, Nat.reduceAdd, Nat.reduceLeDiff, ↓reduceIte, Int.reduceLT, Int.reduceLE, Int.reduceAdd, Int.reduceSub, Int.reduceMul, Int.reduceNeg, Int.reduceToNat, Int.reduceEq, not_true_eq_false, not_false_eq_true, Int.toNat_zero, true_or, or_true]
    rw [if_pos (by omega)]
    exact k σ1 hF
  | succ r ih =>
    intro p σ1 h0 h1 hT hF k
    have f8 : Fr G8 σ σ1 := hF.mono (fun g j k q => by simp only [frM, G8] at q ⊢; omega)
    have hG1 := hG.k8 (by omega) f8
    have e1 := hG1.2.2.1
    obtain ⟨c0, c1⟩ := hR p h0 (by omega)
    have e2 : σ1 8 12 p.toNat = R p := (hF 8 12 _ (by simp only [frM]; omega)).trans c0
    rw [u63_12]
    simp (disch := first | omega | simp) only [u63_0, u63_1, u63_4, u63_5, u63_6, u63_9, u63_10, u63_14, u63_15, u63_18, u63_21, u63_22, u63_25, u63_27, u63_28, u63_31, u63_32, u63_35, u63_36, u63_38, u63_41, u63_42, u63_45, u63_48, u63_51, u63_52, u63_53, u63_56, u63_59, u63_60, o_8_0, fv_8_0_0, fv_8_0_1, fv_8_0_2, fv_8_0_3, fv_8_0_4, rf_8_0_4, o_8_1, fv_8_1_0, fv_8_1_1, rf_8_1_1, o_8_4, fv_8_4_0, fv_8_4_1, fv_8_4_2, fv_8_4_3, fv_8_4_4, fv_8_4_5, fv_8_4_6, rf_8_4_6, o_8_5, fv_8_5_0, fv_8_5_1, fv_8_5_2, fv_8_5_3, fv_8_5_4, rf_8_5_4, fv_8_5_5, rf_8_5_5, o_8_15, fv_8_15_0, fv_8_15_1, fv_8_15_2, fv_8_15_3, fv_8_15_4, rf_8_15_4, o_8_16, fv_8_16_0, fv_8_16_1, fv_8_16_2, fv_8_16_3, fv_8_16_4, rf_8_16_4, fv_8_16_5, rf_8_16_5, ia_8_2, is_8_2, ia_8_6, is_8_6, ia_8_7, is_8_7, ia_8_8, is_8_8, ia_8_9, is_8_9, ia_8_14, is_8_14, ia_8_17, is_8_17, ia_8_18, is_8_18, ia_8_19, is_8_19, ia_8_20, is_8_20, ia_8_21, is_8_21, ia_8_22, is_8_22, ia_8_23, is_8_23, iz_8_12, iz_8_13, aa_3, ar_3, aa_10, ar_10, aa_11, ar_11, ia_10, is_10, ia_11, is_11, o_c0, fv_c0_0, fv_c0_1, fv_c0_2, fv_c0_3, fv_c0_4, fv_c0_5, fv_c0_6, fv_c0_7, rf_c0_7, fv_c0_8, rf_c0_8, fv_c0_9, rf_c0_9, fv_c0_10, rf_c0_10, fv_c0_11, rf_c0_11, fv_c0_12, rf_c0_12, fv_c0_13, rf_c0_13, fv_c0_14, rf_c0_14, fv_c0_15, rf_c0_15, fv_c0_16, rf_c0_16, fv_c0_17, rf_c0_17, o_c1, fv_c1_0, fv_c1_1, fv_c1_2, rf_c1_2, o_c4, fv_c4_0, fv_c4_1, fv_c4_2, rf_c4_2, ia_c2, is_c2, ia_c3, is_c3, ia_c5, is_c5, ia_c6, is_c6, ia_c7, is_c7, ia_c8, is_c8, ia_c9, is_c9, ia_c10, is_c10, ia_c11, is_c11, e1, e2, Li_s, Lr_s, Ll_s, On_s, lget, lset, clr_i, clr_r, clr_n, Kc_i, Kc_v, Kc_x, true_and, and_true, List.length_cons, List.length_nil, nlg, isLn, List.all_cons, List.all_nil, Bool.and_true, Bool.not_false, Nat.zero_le, Nat.reduceAdd, Nat.reduceLeDiff, ↓reduceIte, Int.reduceLT, Int.reduceLE, Int.reduceAdd, Int.reduceSub, Int.reduceMul, Int.reduceNeg, Int.reduceToNat, Int.reduceEq, not_true_eq_false, not_false_eq_true, Int.toNat_zero, true_or, or_true]
    rw [if_neg (by omega)]
    rw [anR_s] at k
    by_cases hr : R p = 0
    · rw [if_pos hr]
      rw [if_pos (by rw [if_pos hr])] at k
      exact ih (p + 1) σ1 (by omega) (by omega) hT hF k
    · rw [if_neg hr]
      have sF := hG.2.2.2.2.2.2.2 p h0 (by omega)
      have sT := hG'.2.2.2.2.2.2.2 q hq.1 hq.2
      have es := sO_k8 (p := p) (show i < 8 by omega) f8
      have K1 := kpA_in σ T i p q
      refine w_startAt_5 (by omega) hG1.1 (by omega) (by rw [es]; exact sF) (fun σ2 hM2 hF2 => ?_)
      rw [es, f8 i 0 12 (by simp only [G8]; omega), f8 i 0 13 (by simp only [G8]; omega)] at hM2
      have hT2 : MvT σ2 5 (sO σ (i + 1) q) (ltA (T (i + 1)) (sO σ (i + 1) q)) := fun v v0 v1 => by
        rw [hF2 8 7 _ (by simp only [frS]; omega), hF2 8 9 _ (by simp only [frS]; omega)]
        exact hT v v0 v1
      have g2 : Fr frM σ σ2 := hF.tr (hF2.mono (fun g j k q => by simp only [frS, frM] at q ⊢; omega))
      simp (disch := first | omega | simp) only [u63_0, u63_1, u63_4, u63_5, u63_6, u63_9, u63_10, u63_14, u63_15, u63_18, u63_21, u63_22, u63_25, u63_27, u63_28, u63_31, u63_32, u63_35, u63_36, u63_38, u63_41, u63_42, u63_45, u63_48, u63_51, u63_52, u63_53, u63_56, u63_59, u63_60, o_8_0, fv_8_0_0, fv_8_0_1, fv_8_0_2, fv_8_0_3, fv_8_0_4, rf_8_0_4, o_8_1, fv_8_1_0, fv_8_1_1, rf_8_1_1, o_8_4, fv_8_4_0, fv_8_4_1, fv_8_4_2, fv_8_4_3, fv_8_4_4, fv_8_4_5, fv_8_4_6, rf_8_4_6, o_8_5, fv_8_5_0, fv_8_5_1, fv_8_5_2, fv_8_5_3, fv_8_5_4, rf_8_5_4, fv_8_5_5, rf_8_5_5, o_8_15, fv_8_15_0, fv_8_15_1, fv_8_15_2, fv_8_15_3, fv_8_15_4, rf_8_15_4, o_8_16, fv_8_16_0, fv_8_16_1, fv_8_16_2, fv_8_16_3, fv_8_16_4, rf_8_16_4, fv_8_16_5, rf_8_16_5, ia_8_2, is_8_2, ia_8_6, is_8_6, ia_8_7, is_8_7, ia_8_8, is_8_8, ia_8_9, is_8_9, ia_8_14, is_8_14, ia_8_17, is_8_17, ia_8_18, is_8_18, ia_8_19, is_8_19, ia_8_20, is_8_20, ia_8_21, is_8_21, ia_8_22, is_8_22, ia_8_23, is_8_23, iz_8_12, iz_8_13, aa_3, ar_3, aa_10, ar_10, aa_11, ar_11, ia_10, is_10, ia_11, is_11, o_c0, fv_c0_0, fv_c0_1, fv_c0_2, fv_c0_3, fv_c0_4, fv_c0_5, fv_c0_6, fv_c0_7, rf_c0_7, fv_c0_8, rf_c0_8, fv_c0_9, rf_c0_9, fv_c0_10, rf_c0_10, fv_c0_11, rf_c0_11, fv_c0_12, rf_c0_12, fv_c0_13, rf_c0_13, fv_c0_14, rf_c0_14, fv_c0_15, rf_c0_15, fv_c0_16, rf_c0_16, fv_c0_17, rf_c0_17, o_c1, fv_c1_0, fv_c1_1, fv_c1_2, rf_c1_2, o_c4, fv_c4_0, fv_c4_1, fv_c4_2, rf_c4_2, ia_c2, is_c2, ia_c3, is_c3, ia_c5, is_c5, ia_c6, is_c6, ia_c7, is_c7, ia_c8, is_c8, ia_c9, is_c9, ia_c10, is_c10, ia_c11, is_c11, Li_s, Lr_s, Ll_s, On_s, lget, lset, clr_i, clr_r, clr_n, Kc_i, Kc_v, Kc_x, true_and, and_true, List.length_cons, List.length_nil, nlg, isLn, List.all_cons, List.all_nil, Bool.and_true, Bool.not_false, Nat.zero_le, Nat.reduceAdd, Nat.reduceLeDiff, ↓reduceIte, Int.reduceLT, Int.reduceLE, Int.reduceAdd, Int.reduceSub, Int.reduceMul, Int.reduceNeg, Int.reduceToNat, Int.reduceEq, not_true_eq_false, not_false_eq_true, Int.toNat_zero, true_or, or_true]
      rw [(r_keeps (Or.inl rfl) hM2 hT2 sF sT (ltA_in hG.2.1 _) (ltA_in hG'.2.1 _) hG.2.2.2.2.1 hG.2.2.2.2.2.1).iff, show kps (σ i 0 12) (σ i 0 13) (sO σ i p) (sO σ (i + 1) q) (fun v => lmp (T i) (sO σ i p v % 12)) (ltA (T (i + 1)) (sO σ (i + 1) q)) = kpA σ T i p q from rfl]
      simp (disch := first | omega | simp) only [u63_0, u63_1, u63_4, u63_5, u63_6, u63_9, u63_10, u63_14, u63_15, u63_18, u63_21, u63_22, u63_25, u63_27, u63_28, u63_31, u63_32, u63_35, u63_36, u63_38, u63_41, u63_42, u63_45, u63_48, u63_51, u63_52, u63_53, u63_56, u63_59, u63_60, o_8_0, fv_8_0_0, fv_8_0_1, fv_8_0_2, fv_8_0_3, fv_8_0_4, rf_8_0_4, o_8_1, fv_8_1_0, fv_8_1_1, rf_8_1_1, o_8_4, fv_8_4_0, fv_8_4_1, fv_8_4_2, fv_8_4_3, fv_8_4_4, fv_8_4_5, fv_8_4_6, rf_8_4_6, o_8_5, fv_8_5_0, fv_8_5_1, fv_8_5_2, fv_8_5_3, fv_8_5_4, rf_8_5_4, fv_8_5_5, rf_8_5_5, o_8_15, fv_8_15_0, fv_8_15_1, fv_8_15_2, fv_8_15_3, fv_8_15_4, rf_8_15_4, o_8_16, fv_8_16_0, fv_8_16_1, fv_8_16_2, fv_8_16_3, fv_8_16_4, rf_8_16_4, fv_8_16_5, rf_8_16_5, ia_8_2, is_8_2, ia_8_6, is_8_6, ia_8_7, is_8_7, ia_8_8, is_8_8, ia_8_9, is_8_9, ia_8_14, is_8_14, ia_8_17, is_8_17, ia_8_18, is_8_18, ia_8_19, is_8_19, ia_8_20, is_8_20, ia_8_21, is_8_21, ia_8_22, is_8_22, ia_8_23, is_8_23, iz_8_12, iz_8_13, aa_3, ar_3, aa_10, ar_10, aa_11, ar_11, ia_10, is_10, ia_11, is_11, o_c0, fv_c0_0, fv_c0_1, fv_c0_2, fv_c0_3, fv_c0_4, fv_c0_5, fv_c0_6, fv_c0_7, rf_c0_7, fv_c0_8, rf_c0_8, fv_c0_9, rf_c0_9, fv_c0_10, rf_c0_10, fv_c0_11, rf_c0_11, fv_c0_12, rf_c0_12, fv_c0_13, rf_c0_13, fv_c0_14, rf_c0_14, fv_c0_15, rf_c0_15, fv_c0_16, rf_c0_16, fv_c0_17, rf_c0_17, o_c1, fv_c1_0, fv_c1_1, fv_c1_2, rf_c1_2, o_c4, fv_c4_0, fv_c4_1, fv_c4_2, rf_c4_2, ia_c2, is_c2, ia_c3, is_c3, ia_c5, is_c5, ia_c6, is_c6, ia_c7, is_c7, ia_c8, is_c8, ia_c9, is_c9, ia_c10, is_c10, ia_c11, is_c11, Li_s, Lr_s, Ll_s, On_s, lget, lset, clr_i, clr_r, clr_n, Kc_i, Kc_v, Kc_x, true_and, and_true, List.length_cons, List.length_nil, nlg, isLn, List.all_cons, List.all_nil, Bool.and_true, Bool.not_false, Nat.zero_le, Nat.reduceAdd, Nat.reduceLeDiff, ↓reduceIte, Int.reduceLT, Int.reduceLE, Int.reduceAdd, Int.reduceSub, Int.reduceMul, Int.reduceNeg, Int.reduceToNat, Int.reduceEq, not_true_eq_false, not_false_eq_true, Int.toNat_zero, true_or, or_true]
      by_cases hk : kpA σ T i p q = 0
      · rw [if_pos hk]
        rw [if_pos (by rw [if_neg hr]; exact hk)] at k
        exact ih (p + 1) σ2 (by omega) (by omega) hT2 g2 k
      · rw [if_neg hk]
        rw [if_neg (by rw [if_neg hr]; exact hk)] at k
        exact k σ2 g2
theorem w_reach (hi : i + 1 < 8) (hG : ChG σ i (T i) (N i)) (hG' : ChG σ (i + 1) (T (i + 1)) (N (i + 1))) (hq : 0 ≤ q ∧ q < N (i + 1)) (hR : RcIs σ R) (k : ∀ σ', Fr frM σ σ' → Q (.inl (some (vi (anR (fun p => if R p = 0 then 0 else kpA σ T i p q) (N i) 0)))) σ') : Wm (d + 3) 63 [vr 8 4, vr i 0, vr (i + 1) 0, vi q] σ Q := by
  have hN := hG'.2.2.2.1
  rw [e63]
  simp (disch := first | omega | simp) only [u63_0, u63_1, u63_4, u63_5, u63_6, u63_9, u63_10, u63_14, u63_15, u63_18, u63_21, u63_22, u63_25, u63_27, u63_28, u63_31, u63_32, u63_35, u63_36, u63_38, u63_41, u63_42, u63_45, u63_48, u63_51, u63_52, u63_53, u63_56, u63_59, u63_60, o_8_0, fv_8_0_0, fv_8_0_1, fv_8_0_2, fv_8_0_3, fv_8_0_4, rf_8_0_4, o_8_1, fv_8_1_0, fv_8_1_1, rf_8_1_1, o_8_4, fv_8_4_0, fv_8_4_1, fv_8_4_2, fv_8_4_3, fv_8_4_4, fv_8_4_5, fv_8_4_6, rf_8_4_6, o_8_5, fv_8_5_0, fv_8_5_1, fv_8_5_2, fv_8_5_3, fv_8_5_4, rf_8_5_4, fv_8_5_5, rf_8_5_5, o_8_15, fv_8_15_0, fv_8_15_1, fv_8_15_2, fv_8_15_3, fv_8_15_4, rf_8_15_4, o_8_16, fv_8_16_0, fv_8_16_1, fv_8_16_2, fv_8_16_3, fv_8_16_4, rf_8_16_4, fv_8_16_5, rf_8_16_5, ia_8_2, is_8_2, ia_8_6, is_8_6, ia_8_7, is_8_7, ia_8_8, is_8_8, ia_8_9, is_8_9, ia_8_14, is_8_14, ia_8_17, is_8_17, ia_8_18, is_8_18, ia_8_19, is_8_19, ia_8_20, is_8_20, ia_8_21, is_8_21, ia_8_22, is_8_22, ia_8_23, is_8_23, iz_8_12, iz_8_13, aa_3, ar_3, aa_10, ar_10, aa_11, ar_11, ia_10, is_10, ia_11, is_11, o_c0, fv_c0_0, fv_c0_1, fv_c0_2, fv_c0_3, fv_c0_4, fv_c0_5, fv_c0_6, fv_c0_7, rf_c0_7, fv_c0_8, rf_c0_8, fv_c0_9, rf_c0_9, fv_c0_10, rf_c0_10, fv_c0_11, rf_c0_11, fv_c0_12, rf_c0_12, fv_c0_13, rf_c0_13, fv_c0_14, rf_c0_14, fv_c0_15, rf_c0_15, fv_c0_16, rf_c0_16, fv_c0_17, rf_c0_17, o_c1, fv_c1_0, fv_c1_1, fv_c1_2, rf_c1_2, o_c4, fv_c4_0, fv_c4_1, fv_c4_2, rf_c4_2, ia_c2, is_c2, ia_c3, is_c3, ia_c5, is_c5, ia_c6, is_c6, ia_c7, is_c7, ia_c8, is_c8, ia_c9, is_c9, ia_c10, is_c10, ia_c11, is_c11, Li_s, Lr_s, Ll_s, On_s, lget, lset, clr_i, clr_r, clr_n, Kc_i, Kc_v, Kc_x, true_and, and_true, List.length_cons, List.length_nil, nlg, isLn, List.all_cons, List.all_nil, Bool.and_true, Bool.not_false, Nat.zero_le, Nat.reduceAdd, Nat.reduceLeDiff, ↓reduceIte, Int.reduceLT, Int.reduceLE, Int.reduceAdd, Int.reduceSub, Int.reduceMul, Int.reduceNeg, Int.reduceToNat, Int.reduceEq, not_true_eq_false, not_false_eq_true, Int.toNat_zero, true_or, or_true]
  refine w_endAt_5 (by omega) hG'.1 (by omega) (hG'.2.2.2.2.2.2.2 q hq.1 hq.2) (fun σ1 hT hF => ?_)
  simp (disch := first | omega | simp) only [u63_0, u63_1, u63_4, u63_5, u63_6, u63_9, u63_10, u63_14, u63_15, u63_18, u63_21, u63_22, u63_25, u63_27, u63_28, u63_31, u63_32, u63_35, u63_36, u63_38, u63_41, u63_42, u63_45, u63_48, u63_51, u63_52, u63_53, u63_56, u63_59, u63_60, o_8_0, fv_8_0_0, fv_8_0_1, fv_8_0_2, fv_8_0_3, fv_8_0_4, rf_8_0_4, o_8_1, fv_8_1_0, fv_8_1_1, rf_8_1_1, o_8_4, fv_8_4_0, fv_8_4_1, fv_8_4_2, fv_8_4_3, fv_8_4_4, fv_8_4_5, fv_8_4_6, rf_8_4_6, o_8_5, fv_8_5_0, fv_8_5_1, fv_8_5_2, fv_8_5_3, fv_8_5_4, rf_8_5_4, fv_8_5_5, rf_8_5_5, o_8_15, fv_8_15_0, fv_8_15_1, fv_8_15_2, fv_8_15_3, fv_8_15_4, rf_8_15_4, o_8_16, fv_8_16_0, fv_8_16_1, fv_8_16_2, fv_8_16_3, fv_8_16_4, rf_8_16_4, fv_8_16_5, rf_8_16_5, ia_8_2, is_8_2, ia_8_6, is_8_6, ia_8_7, is_8_7, ia_8_8, is_8_8, ia_8_9, is_8_9, ia_8_14, is_8_14, ia_8_17, is_8_17, ia_8_18, is_8_18, ia_8_19, is_8_19, ia_8_20, is_8_20, ia_8_21, is_8_21, ia_8_22, is_8_22, ia_8_23, is_8_23, iz_8_12, iz_8_13, aa_3, ar_3, aa_10, ar_10, aa_11, ar_11, ia_10, is_10, ia_11, is_11, o_c0, fv_c0_0, fv_c0_1, fv_c0_2, fv_c0_3, fv_c0_4, fv_c0_5, fv_c0_6, fv_c0_7, rf_c0_7, fv_c0_8, rf_c0_8, fv_c0_9, rf_c0_9, fv_c0_10, rf_c0_10, fv_c0_11, rf_c0_11, fv_c0_12, rf_c0_12, fv_c0_13, rf_c0_13, fv_c0_14, rf_c0_14, fv_c0_15, rf_c0_15, fv_c0_16, rf_c0_16, fv_c0_17, rf_c0_17, o_c1, fv_c1_0, fv_c1_1, fv_c1_2, rf_c1_2, o_c4, fv_c4_0, fv_c4_1, fv_c4_2, rf_c4_2, ia_c2, is_c2, ia_c3, is_c3, ia_c5, is_c5, ia_c6, is_c6, ia_c7, is_c7, ia_c8, is_c8, ia_c9, is_c9, ia_c10, is_c10, ia_c11, is_c11, Li_s, Lr_s, Ll_s, On_s, lget, lset, clr_i, clr_r, clr_n, Kc_i, Kc_v, Kc_x, true_and, and_true, List.length_cons, List.length_nil, nlg, isLn, List.all_cons, List.all_nil, Bool.and_true, Bool.not_false, Nat.zero_le, Nat.reduceAdd, Nat.reduceLeDiff, ↓reduceIte, Int.reduceLT, Int.reduceLE, Int.reduceAdd, Int.reduceSub, Int.reduceMul, Int.reduceNeg, Int.reduceToNat, Int.reduceEq, not_true_eq_false, not_false_eq_true, Int.toNat_zero, true_or, or_true]
  exact l_reach hi hG hG' hq hR (N i) 0 σ1 (by omega) (by omega) hT (hF.mono (fun g j k q => by simp only [frE, frM] at q ⊢; omega)) k
theorem l_rn1 (hi : i + 1 < 8) (hG : ChG σ i (T i) (N i)) (hG' : ChG σ (i + 1) (T (i + 1)) (N (i + 1))) (hR : RcIs σ R) : ∀ (r : Nat) (q : Int) (σ1 : Sg), 0 ≤ q → q + r = 64 → (∀ p : Int, 0 ≤ p → p < q → σ1 8 13 p.toNat = rcS R (kpA σ T i) (N i) (N (i + 1)) p) → Fr frQ σ σ1 → (∀ σ' x, (∀ p : Int, 0 ≤ p → p < 64 → σ' 8 13 p.toNat = rcS R (kpA σ T i) (N i) (N (i + 1)) p) → Fr frQ σ σ' → Wx (d + 4) 62 43 [some (vr 8 4), some (vr i 0), some (vr (i + 1) 0), x] [] σ' Q) → Wx (d + 4) 62 2 [some (vr 8 4), some (vr i 0), some (vr (i + 1) 0), some (vi q)] [] σ1 Q := by
  have hN := hG'.2.2.2.1
  intro r
  induction r with
  | zero =>
    intro q σ1 h0 h1 hv hF k
    rw [u62_2]
    simp (disch := first | omega | simp) only [u62_0, u62_1, u62_3, u62_5, u62_8, u62_9, u62_12, u62_13, u62_14, u62_15, u62_18, u62_21, u62_22, u62_23, u62_24, u62_25, u62_28, u62_31, u62_32, u62_35, u62_36, u62_37, u62_40, u62_44, u62_45, u62_46, u62_48, u62_51, u62_52, u62_55, u62_56, u62_57, u62_60, u62_61, u62_62, u62_63, u62_66, u62_69, o_8_0, fv_8_0_0, fv_8_0_1, fv_8_0_2, fv_8_0_3, fv_8_0_4, rf_8_0_4, o_8_1, fv_8_1_0, fv_8_1_1, rf_8_1_1, o_8_4, fv_8_4_0, fv_8_4_1, fv_8_4_2, fv_8_4_3, fv_8_4_4, fv_8_4_5, fv_8_4_6, rf_8_4_6, o_8_5, fv_8_5_0, fv_8_5_1, fv_8_5_2, fv_8_5_3, fv_8_5_4, rf_8_5_4, fv_8_5_5, rf_8_5_5, o_8_15, fv_8_15_0, fv_8_15_1, fv_8_15_2, fv_8_15_3, fv_8_15_4, rf_8_15_4, o_8_16, fv_8_16_0, fv_8_16_1, fv_8_16_2, fv_8_16_3, fv_8_16_4, rf_8_16_4, fv_8_16_5, rf_8_16_5, ia_8_2, is_8_2, ia_8_6, is_8_6, ia_8_7, is_8_7, ia_8_8, is_8_8, ia_8_9, is_8_9, ia_8_14, is_8_14, ia_8_17, is_8_17, ia_8_18, is_8_18, ia_8_19, is_8_19, ia_8_20, is_8_20, ia_8_21, is_8_21, ia_8_22, is_8_22, ia_8_23, is_8_23, iz_8_12, iz_8_13, aa_3, ar_3, aa_10, ar_10, aa_11, ar_11, ia_10, is_10, ia_11, is_11, o_c0, fv_c0_0, fv_c0_1, fv_c0_2, fv_c0_3, fv_c0_4, fv_c0_5, fv_c0_6, fv_c0_7, rf_c0_7, fv_c0_8, rf_c0_8, fv_c0_9, rf_c0_9, fv_c0_10, rf_c0_10, fv_c0_11, rf_c0_11, fv_c0_12, rf_c0_12, fv_c0_13, rf_c0_13, fv_c0_14, rf_c0_14, fv_c0_15, rf_c0_15, fv_c0_16, rf_c0_16, fv_c0_17, rf_c0_17, o_c1, fv_c1_0, fv_c1_1, fv_c1_2, rf_c1_2, o_c4, fv_c4_0, fv_c4_1, fv_c4_2, rf_c4_2, ia_c2, is_c2, ia_c3, is_c3, ia_c5, is_c5, ia_c6, is_c6, ia_c7, is_c7, ia_c8, is_c8, ia_c9, is_c9, ia_c10, is_c10, ia_c11, is_c11, Li_s, Lr_s, Ll_s, On_s, lget, lset, clr_i, clr_r, clr_n, Kc_i, Kc_v, Kc_x, true_and, and_true, List.length_cons, List.length_nil, nlg, isLn, List.all_cons, List.all_nil, Bool.and_true, Bool.not_false, Nat.zero_le, Nat.reduceAdd, Nat.reduceLeDiff, ↓reduceIte, Int.reduceLT, Int.reduceLE, Int.reduceAdd, Int.reduceSub, Int.reduceMul, Int.reduceNeg, Int.reduceToNat, Int.reduceEq, not_true_eq_false, not_false_eq_true, Int.toNat_zero, true_or, or_true]
    rw [if_pos (by omega)]
    exact k σ1 _ (fun p p0 p1 => hv p p0 (by omega)) hF
  | succ r ih =>
    intro q σ1 h0 h1 hv hF k
    have f8 : Fr G8 σ σ1 := hF.mono (fun g j k q => by simp only [frQ, G8] at q ⊢; omega)
    have e1 := (hG'.k8 (by omega) f8).2.2.1
    have key : ∀ (x : Int) (σ2 : Sg), x = rcS R (kpA σ T i) (N i) (N (i + 1)) q → Fr frM σ1 σ2 → Wx (d + 4) 62 36 [some (vr 8 4), some (vr i 0), some (vr (i + 1) 0), some (vi q)] [vi x, vi q, vr 8 13] σ2 Q := by
      intro x σ2 hx hF2
      have hx1 := rcS_in R (kpA σ T i) (N i) (N (i + 1)) q
      rw [← hx] at hx1
      simp (disch := first | omega | simp) only [u62_0, u62_1, u62_3, u62_5, u62_8, u62_9, u62_12, u62_13, u62_14, u62_15, u62_18, u62_21, u62_22, u62_23, u62_24, u62_25, u62_28, u62_31, u62_32, u62_35, u62_36, u62_37, u62_40, u62_44, u62_45, u62_46, u62_48, u62_51, u62_52, u62_55, u62_56, u62_57, u62_60, u62_61, u62_62, u62_63, u62_66, u62_69, o_8_0, fv_8_0_0, fv_8_0_1, fv_8_0_2, fv_8_0_3, fv_8_0_4, rf_8_0_4, o_8_1, fv_8_1_0, fv_8_1_1, rf_8_1_1, o_8_4, fv_8_4_0, fv_8_4_1, fv_8_4_2, fv_8_4_3, fv_8_4_4, fv_8_4_5, fv_8_4_6, rf_8_4_6, o_8_5, fv_8_5_0, fv_8_5_1, fv_8_5_2, fv_8_5_3, fv_8_5_4, rf_8_5_4, fv_8_5_5, rf_8_5_5, o_8_15, fv_8_15_0, fv_8_15_1, fv_8_15_2, fv_8_15_3, fv_8_15_4, rf_8_15_4, o_8_16, fv_8_16_0, fv_8_16_1, fv_8_16_2, fv_8_16_3, fv_8_16_4, rf_8_16_4, fv_8_16_5, rf_8_16_5, ia_8_2, is_8_2, ia_8_6, is_8_6, ia_8_7, is_8_7, ia_8_8, is_8_8, ia_8_9, is_8_9, ia_8_14, is_8_14, ia_8_17, is_8_17, ia_8_18, is_8_18, ia_8_19, is_8_19, ia_8_20, is_8_20, ia_8_21, is_8_21, ia_8_22, is_8_22, ia_8_23, is_8_23, iz_8_12, iz_8_13, aa_3, ar_3, aa_10, ar_10, aa_11, ar_11, ia_10, is_10, ia_11, is_11, o_c0, fv_c0_0, fv_c0_1, fv_c0_2, fv_c0_3, fv_c0_4, fv_c0_5, fv_c0_6, fv_c0_7, rf_c0_7, fv_c0_8, rf_c0_8, fv_c0_9, rf_c0_9, fv_c0_10, rf_c0_10, fv_c0_11, rf_c0_11, fv_c0_12, rf_c0_12, fv_c0_13, rf_c0_13, fv_c0_14, rf_c0_14, fv_c0_15, rf_c0_15, fv_c0_16, rf_c0_16, fv_c0_17, rf_c0_17, o_c1, fv_c1_0, fv_c1_1, fv_c1_2, rf_c1_2, o_c4, fv_c4_0, fv_c4_1, fv_c4_2, rf_c4_2, ia_c2, is_c2, ia_c3, is_c3, ia_c5, is_c5, ia_c6, is_c6, ia_c7, is_c7, ia_c8, is_c8, ia_c9, is_c9, ia_c10, is_c10, ia_c11, is_c11, hx1, Li_s, Lr_s, Ll_s, On_s, lget, lset, clr_i, clr_r, clr_n, Kc_i, Kc_v, Kc_x, true_and, and_true, List.length_cons, List.length_nil, nlg, isLn, List.all_cons, List.all_nil, Bool.and_true, Bool.not_false, Nat.zero_le, Nat.reduceAdd, Nat.reduceLeDiff, ↓reduceIte, Int.reduceLT, Int.reduceLE, Int.reduceAdd, Int.reduceSub, Int.reduceMul, Int.reduceNeg, Int.reduceToNat, Int.reduceEq, not_true_eq_false, not_false_eq_true, Int.toNat_zero, true_or, or_true]
      refine ih (q + 1) _ (by omega) (by omega) (fun p p0 p1 => ?_) (hF.tr (Fr.tr (hF2.mono (fun g j k q => by simp only [frM, frQ] at q ⊢; omega)) (Fr.wr ⟨rfl, Or.inr rfl⟩))) k
      rw [up_at]
      by_cases hp : p = q
      · subst hp
        rw [if_pos ⟨rfl, rfl, rfl⟩, hx]
      · rw [if_neg (by omega), hF2 8 13 _ (by simp only [frM]; omega)]
        exact hv p p0 (by omega)
    rw [u62_2]
    simp (disch := first | omega | simp) only [u62_0, u62_1, u62_3, u62_5, u62_8, u62_9, u62_12, u62_13, u62_14, u62_15, u62_18, u62_21, u62_22, u62_23, u62_24, u62_25, u62_28, u62_31, u62_32, u62_35, u62_37, u62_40, u62_44, u62_45, u62_46, u62_48, u62_51, u62_52, u62_55, u62_56, u62_57, u62_60, u62_61, u62_62, u62_63, u62_66, u62_69, o_8_0, fv_8_0_0, fv_8_0_1, fv_8_0_2, fv_8_0_3, fv_8_0_4, rf_8_0_4, o_8_1, fv_8_1_0, fv_8_1_1, rf_8_1_1, o_8_4, fv_8_4_0, fv_8_4_1, fv_8_4_2, fv_8_4_3, fv_8_4_4, fv_8_4_5, fv_8_4_6, rf_8_4_6, o_8_5, fv_8_5_0, fv_8_5_1, fv_8_5_2, fv_8_5_3, fv_8_5_4, rf_8_5_4, fv_8_5_5, rf_8_5_5, o_8_15, fv_8_15_0, fv_8_15_1, fv_8_15_2, fv_8_15_3, fv_8_15_4, rf_8_15_4, o_8_16, fv_8_16_0, fv_8_16_1, fv_8_16_2, fv_8_16_3, fv_8_16_4, rf_8_16_4, fv_8_16_5, rf_8_16_5, ia_8_2, is_8_2, ia_8_6, is_8_6, ia_8_7, is_8_7, ia_8_8, is_8_8, ia_8_9, is_8_9, ia_8_14, is_8_14, ia_8_17, is_8_17, ia_8_18, is_8_18, ia_8_19, is_8_19, ia_8_20, is_8_20, ia_8_21, is_8_21, ia_8_22, is_8_22, ia_8_23, is_8_23, iz_8_12, iz_8_13, aa_3, ar_3, aa_10, ar_10, aa_11, ar_11, ia_10, is_10, ia_11, is_11, o_c0, fv_c0_0, fv_c0_1, fv_c0_2, fv_c0_3, fv_c0_4, fv_c0_5, fv_c0_6, fv_c0_7, rf_c0_7, fv_c0_8, rf_c0_8, fv_c0_9, rf_c0_9, fv_c0_10, rf_c0_10, fv_c0_11, rf_c0_11, fv_c0_12, rf_c0_12, fv_c0_13, rf_c0_13, fv_c0_14, rf_c0_14, fv_c0_15, rf_c0_15, fv_c0_16, rf_c0_16, fv_c0_17, rf_c0_17, o_c1, fv_c1_0, fv_c1_1, fv_c1_2, rf_c1_2, o_c4, fv_c4_0, fv_c4_1, fv_c4_2, rf_c4_2, ia_c2, is_c2, ia_c3, is_c3, ia_c5, is_c5, ia_c6, is_c6, ia_c7, is_c7, ia_c8, is_c8, ia_c9, is_c9, ia_c10, is_c10, ia_c11, is_c11, e1, Li_s, Lr_s, Ll_s, On_s, lget, lset, clr_i, clr_r, clr_n, Kc_i, Kc_v, Kc_x, true_and, and_true, List.length_cons, List.length_nil, nlg, isLn, List.all_cons, List.all_nil, Bool.and_true, Bool.not_false, Nat.zero_le, Nat.reduceAdd, Nat.reduceLeDiff, ↓reduceIte, Int.reduceLT, Int.reduceLE, Int.reduceAdd, Int.reduceSub, Int.reduceMul, Int.reduceNeg, Int.reduceToNat, Int.reduceEq, not_true_eq_false, not_false_eq_true, Int.toNat_zero, true_or, or_true]
    rw [if_neg (by omega)]
    by_cases hq : (N (i + 1) : Int) ≤ q
    · rw [if_pos hq]
      exact key 0 σ1 (by unfold rcS; rw [if_neg (by omega)]) Fr.rf
    · rw [if_neg hq]
      have hR1 : RcIs σ1 R := fun p p0 p1 => by
        rw [hF 8 12 _ (by simp only [frQ]; omega)]
        exact hR p p0 p1
      refine w_reach hi (hG.k8 (by omega) f8) (hG'.k8 (by omega) f8) ⟨h0, by omega⟩ hR1 (fun σ2 hF2 => ?_)
      rw [kpA_k8 hi f8]
      have K1 := anR_in (fun p => if R p = 0 then 0 else kpA σ T i p q) (N i) 0
      generalize ha : anR (fun p => if R p = 0 then 0 else kpA σ T i p q) (N i) 0 = a at *
      have hx : a = rcS R (kpA σ T i) (N i) (N (i + 1)) q := by
        unfold rcS
        rw [if_pos (by omega), ha]
      simp (disch := first | omega | simp) only [u62_0, u62_1, u62_3, u62_5, u62_8, u62_9, u62_12, u62_13, u62_14, u62_15, u62_18, u62_21, u62_22, u62_23, u62_24, u62_25, u62_28, u62_31, u62_32, u62_35, u62_37, u62_40, u62_44, u62_45, u62_46, u62_48, u62_51, u62_52, u62_55, u62_56, u62_57, u62_60, u62_61, u62_62, u62_63, u62_66, u62_69, o_8_0, fv_8_0_0, fv_8_0_1, fv_8_0_2, fv_8_0_3, fv_8_0_4, rf_8_0_4, o_8_1, fv_8_1_0, fv_8_1_1, rf_8_1_1, o_8_4, fv_8_4_0, fv_8_4_1, fv_8_4_2, fv_8_4_3, fv_8_4_4, fv_8_4_5, fv_8_4_6, rf_8_4_6, o_8_5, fv_8_5_0, fv_8_5_1, fv_8_5_2, fv_8_5_3, fv_8_5_4, rf_8_5_4, fv_8_5_5, rf_8_5_5, o_8_15, fv_8_15_0, fv_8_15_1, fv_8_15_2, fv_8_15_3, fv_8_15_4, rf_8_15_4, o_8_16, fv_8_16_0, fv_8_16_1, fv_8_16_2, fv_8_16_3, fv_8_16_4, rf_8_16_4, fv_8_16_5, rf_8_16_5, ia_8_2, is_8_2, ia_8_6, is_8_6, ia_8_7, is_8_7, ia_8_8, is_8_8, ia_8_9, is_8_9, ia_8_14, is_8_14, ia_8_17, is_8_17, ia_8_18, is_8_18, ia_8_19, is_8_19, ia_8_20, is_8_20, ia_8_21, is_8_21, ia_8_22, is_8_22, ia_8_23, is_8_23, iz_8_12, iz_8_13, aa_3, ar_3, aa_10, ar_10, aa_11, ar_11, ia_10, is_10, ia_11, is_11, o_c0, fv_c0_0, fv_c0_1, fv_c0_2, fv_c0_3, fv_c0_4, fv_c0_5, fv_c0_6, fv_c0_7, rf_c0_7, fv_c0_8, rf_c0_8, fv_c0_9, rf_c0_9, fv_c0_10, rf_c0_10, fv_c0_11, rf_c0_11, fv_c0_12, rf_c0_12, fv_c0_13, rf_c0_13, fv_c0_14, rf_c0_14, fv_c0_15, rf_c0_15, fv_c0_16, rf_c0_16, fv_c0_17, rf_c0_17, o_c1, fv_c1_0, fv_c1_1, fv_c1_2, rf_c1_2, o_c4, fv_c4_0, fv_c4_1, fv_c4_2, rf_c4_2, ia_c2, is_c2, ia_c3, is_c3, ia_c5, is_c5, ia_c6, is_c6, ia_c7, is_c7, ia_c8, is_c8, ia_c9, is_c9, ia_c10, is_c10, ia_c11, is_c11, Li_s, Lr_s, Ll_s, On_s, lget, lset, clr_i, clr_r, clr_n, Kc_i, Kc_v, Kc_x, true_and, and_true, List.length_cons, List.length_nil, nlg, isLn, List.all_cons, List.all_nil, Bool.and_true, Bool.not_false, Nat.zero_le, Nat.reduceAdd, Nat.reduceLeDiff, ↓reduceIte, Int.reduceLT, Int.reduceLE, Int.reduceAdd, Int.reduceSub, Int.reduceMul, Int.reduceNeg, Int.reduceToNat, Int.reduceEq, not_true_eq_false, not_false_eq_true, Int.toNat_zero, true_or, or_true]
      rcases K1 with h | h
      · rw [if_pos h]
        exact key 0 σ2 (by omega) hF2
      · rw [if_neg (by omega)]
        exact key 1 σ2 (by omega) hF2
theorem l_rn2 {R' : Int → Int} (h13 : ∀ p : Int, 0 ≤ p → p < 64 → σ 8 13 p.toNat = R' p ∧ (R' p = 0 ∨ R' p = 1)) : ∀ (r : Nat) (q : Int) (σ1 : Sg), 0 ≤ q → q + r = 64 → (∀ p : Int, 0 ≤ p → p < q → σ1 8 12 p.toNat = R' p) → Fr (fun g j _ => g = 8 ∧ j = 12) σ σ1 → (∀ σ', RcIs σ' R' → Fr (fun g j _ => g = 8 ∧ j = 12) σ σ' → Q (.inl none) σ') → Wx d 62 45 [some (vr 8 4), some (vr i 0), some (vr (i + 1) 0), some (vi q)] [] σ1 Q := by
  intro r
  induction r with
  | zero =>
    intro q σ1 h0 h1 hv hF k
    rw [u62_45]
    simp (disch := first | omega | simp) only [u62_0, u62_1, u62_2, u62_3, u62_5, u62_8, u62_9, u62_12, u62_13, u62_14, u62_15, u62_18, u62_21, u62_22, u62_23, u62_24, u62_25, u62_28, u62_31, u62_32, u62_35, u62_36, u62_37, u62_40, u62_43, u62_44, u62_46, u62_48, u62_51, u62_52, u62_55, u62_56, u62_57, u62_60, u62_61, u62_62, u62_63, u62_66, u62_69, o_8_0, fv_8_0_0, fv_8_0_1, fv_8_0_2, fv_8_0_3, fv_8_0_4, rf_8_0_4, o_8_1, fv_8_1_0, fv_8_1_1, rf_8_1_1, o_8_4, fv_8_4_0, fv_8_4_1, fv_8_4_2, fv_8_4_3, fv_8_4_4, fv_8_4_5, fv_8_4_6, rf_8_4_6, o_8_5, fv_8_5_0, fv_8_5_1, fv_8_5_2, fv_8_5_3, fv_8_5_4, rf_8_5_4, fv_8_5_5, rf_8_5_5, o_8_15, fv_8_15_0, fv_8_15_1, fv_8_15_2, fv_8_15_3, fv_8_15_4, rf_8_15_4, o_8_16, fv_8_16_0, fv_8_16_1, fv_8_16_2, fv_8_16_3, fv_8_16_4, rf_8_16_4, fv_8_16_5, rf_8_16_5, ia_8_2, is_8_2, ia_8_6, is_8_6, ia_8_7, is_8_7, ia_8_8, is_8_8, ia_8_9, is_8_9, ia_8_14, is_8_14, ia_8_17, is_8_17, ia_8_18, is_8_18, ia_8_19, is_8_19, ia_8_20, is_8_20, ia_8_21, is_8_21, ia_8_22, is_8_22, ia_8_23, is_8_23, iz_8_12, iz_8_13, aa_3, ar_3, aa_10, ar_10, aa_11, ar_11, ia_10, is_10, ia_11, is_11, Li_s, Lr_s, Ll_s, On_s, lget, lset, clr_i, clr_r, clr_n, Kc_i, Kc_v, Kc_x, true_and, and_true, List.length_cons, List.length_nil, nlg, isLn, List.all_cons, List.all_nil, Bool.and_true, Bool.not_false, Nat.zero_le, Nat.reduceAdd, Nat.reduceLeDiff, ↓reduceIte, Int.reduceLT, Int.reduceLE, Int.reduceAdd, Int.reduceSub, Int.reduceMul, Int.reduceNeg, Int.reduceToNat, Int.reduceEq, not_true_eq_false, not_false_eq_true, Int.toNat_zero, true_or, or_true]
    rw [if_pos (by omega)]
    exact k σ1 (fun p p0 p1 => ⟨hv p p0 (by omega), (h13 p p0 p1).2⟩) hF
  | succ r ih =>
    intro q σ1 h0 h1 hv hF k
    obtain ⟨e0, c1⟩ := h13 q h0 (by omega)
    have e1 : σ1 8 13 q.toNat = R' q := (hF 8 13 _ (by omega)).trans e0
    rw [u62_45]
    simp (disch := first | omega | simp) only [u62_0, u62_1, u62_2, u62_3, u62_5, u62_8, u62_9, u62_12, u62_13, u62_14, u62_15, u62_18, u62_21, u62_22, u62_23, u62_24, u62_25, u62_28, u62_31, u62_32, u62_35, u62_36, u62_37, u62_40, u62_43, u62_44, u62_46, u62_48, u62_51, u62_52, u62_55, u62_56, u62_57, u62_60, u62_61, u62_62, u62_63, u62_66, u62_69, o_8_0, fv_8_0_0, fv_8_0_1, fv_8_0_2, fv_8_0_3, fv_8_0_4, rf_8_0_4, o_8_1, fv_8_1_0, fv_8_1_1, rf_8_1_1, o_8_4, fv_8_4_0, fv_8_4_1, fv_8_4_2, fv_8_4_3, fv_8_4_4, fv_8_4_5, fv_8_4_6, rf_8_4_6, o_8_5, fv_8_5_0, fv_8_5_1, fv_8_5_2, fv_8_5_3, fv_8_5_4, rf_8_5_4, fv_8_5_5, rf_8_5_5, o_8_15, fv_8_15_0, fv_8_15_1, fv_8_15_2, fv_8_15_3, fv_8_15_4, rf_8_15_4, o_8_16, fv_8_16_0, fv_8_16_1, fv_8_16_2, fv_8_16_3, fv_8_16_4, rf_8_16_4, fv_8_16_5, rf_8_16_5, ia_8_2, is_8_2, ia_8_6, is_8_6, ia_8_7, is_8_7, ia_8_8, is_8_8, ia_8_9, is_8_9, ia_8_14, is_8_14, ia_8_17, is_8_17, ia_8_18, is_8_18, ia_8_19, is_8_19, ia_8_20, is_8_20, ia_8_21, is_8_21, ia_8_22, is_8_22, ia_8_23, is_8_23, iz_8_12, iz_8_13, aa_3, ar_3, aa_10, ar_10, aa_11, ar_11, ia_10, is_10, ia_11, is_11, e1, c1, Li_s, Lr_s, Ll_s, On_s, lget, lset, clr_i, clr_r, clr_n, Kc_i, Kc_v, Kc_x, true_and, and_true, List.length_cons, List.length_nil, nlg, isLn, List.all_cons, List.all_nil, Bool.and_true, Bool.not_false, Nat.zero_le, Nat.reduceAdd, Nat.reduceLeDiff, ↓reduceIte, Int.reduceLT, Int.reduceLE, Int.reduceAdd, Int.reduceSub, Int.reduceMul, Int.reduceNeg, Int.reduceToNat, Int.reduceEq, not_true_eq_false, not_false_eq_true, Int.toNat_zero, true_or, or_true]
    rw [if_neg (by omega)]
    refine ih (q + 1) _ (by omega) (by omega) (fun p p0 p1 => ?_) (hF.tr (Fr.wr ⟨rfl, rfl⟩)) k
    rw [up_at]
    by_cases hp : p = q
    · subst hp
      rw [if_pos ⟨rfl, rfl, rfl⟩]
    · rw [if_neg (by omega)]
      exact hv p p0 (by omega)
theorem w_reachNext (hi : i + 1 < 8) (hG : ChG σ i (T i) (N i)) (hG' : ChG σ (i + 1) (T (i + 1)) (N (i + 1))) (hR : RcIs σ R) (k : ∀ σ', RcIs σ' (rcS R (kpA σ T i) (N i) (N (i + 1))) → Fr frN σ σ' → Q (.inl none) σ') : Wm (d + 4) 62 [vr 8 4, vr i 0, vr (i + 1) 0] σ Q := by
  rw [e62]
  simp (disch := first | omega | simp) only [u62_0, u62_1, u62_3, u62_5, u62_8, u62_9, u62_12, u62_13, u62_14, u62_15, u62_18, u62_21, u62_22, u62_23, u62_24, u62_25, u62_28, u62_31, u62_32, u62_35, u62_36, u62_37, u62_40, u62_43, u62_44, u62_45, u62_46, u62_48, u62_51, u62_52, u62_55, u62_56, u62_57, u62_60, u62_61, u62_62, u62_63, u62_66, u62_69, Li_s, Lr_s, Ll_s, On_s, lget, lset, clr_i, clr_r, clr_n, Kc_i, Kc_v, Kc_x, true_and, and_true, List.length_cons, List.length_nil, nlg, isLn, List.all_cons, List.all_nil, Bool.and_true, Bool.not_false, Nat.zero_le, Nat.reduceAdd, Nat.reduceLeDiff, ↓reduceIte, Int.reduceLT, Int.reduceLE, Int.reduceAdd, Int.reduceSub, Int.reduceMul, Int.reduceNeg, Int.reduceToNat, Int.reduceEq, not_true_eq_false, not_false_eq_true, Int.toNat_zero, true_or, or_true]
  refine l_rn1 hi hG hG' hR 64 0 σ (by omega) (by omega) (fun p p0 p1 => by omega) Fr.rf (fun σ1 x h13 hF1 => ?_)
  simp (disch := first | omega | simp) only [u62_0, u62_1, u62_3, u62_5, u62_8, u62_9, u62_12, u62_13, u62_14, u62_15, u62_18, u62_21, u62_22, u62_23, u62_24, u62_25, u62_28, u62_31, u62_32, u62_35, u62_36, u62_37, u62_40, u62_43, u62_44, u62_46, u62_48, u62_51, u62_52, u62_55, u62_56, u62_57, u62_60, u62_61, u62_62, u62_63, u62_66, u62_69, Li_s, Lr_s, Ll_s, On_s, lget, lset, clr_i, clr_r, clr_n, Kc_i, Kc_v, Kc_x, true_and, and_true, List.length_cons, List.length_nil, nlg, isLn, List.all_cons, List.all_nil, Bool.and_true, Bool.not_false, Nat.zero_le, Nat.reduceAdd, Nat.reduceLeDiff, ↓reduceIte, Int.reduceLT, Int.reduceLE, Int.reduceAdd, Int.reduceSub, Int.reduceMul, Int.reduceNeg, Int.reduceToNat, Int.reduceEq, not_true_eq_false, not_false_eq_true, Int.toNat_zero, true_or, or_true]
  refine l_rn2 (R' := rcS R (kpA σ T i) (N i) (N (i + 1))) (fun p p0 p1 => ⟨h13 p p0 p1, rcS_in _ _ _ _ _⟩) 64 0 σ1 (by omega) (by omega) (fun p p0 p1 => by omega) Fr.rf (fun σ2 h2 hF2 => ?_)
  exact k σ2 h2 (Fr.tr (hF1.mono (fun g j k q => by simp only [frQ, frN] at q ⊢; omega)) (hF2.mono (fun g j k q => by simp only [frN]; omega)))
end FW
