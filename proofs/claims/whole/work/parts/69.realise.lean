/-! THE PUBLIC METHODS, on: faults, realise; the class's side -/
section FC
theorem adr_cg {b b' : Int → Int} {g : Int → Flt} : ∀ (r : Nat) (v : Int) (L : List Flt), (∀ z : Int, v ≤ z → z < v + r → b z = b' z) → adr b g r v L = adr b' g r v L
  | 0, _, _, _ => rfl
  | r + 1, v, L, h => by
    rw [adr_s, adr_s, h v (by omega) (by omega), adr_cg r (v + 1) _ (fun z z0 z1 => h z (by omega) (by omega))]
variable {w w' u u' : Int → Int} {T T' : List (Int × Int)} {i ld sv o : Int} {L : List Flt}
theorem fVo_cg (h : ∀ v : Int, 0 ≤ v → v ≤ 3 → w v = w' v) : fVo T w i L = fVo T w' i L := by
  unfold fVo fV1 fV2 fV3 fV4
  rw [adr_cg (b := bRg w) (b' := bRg w') 3 0 L (fun z z0 z1 => by unfold bRg; rw [h z z0 (by omega)]), adr_cg (b := bCr w) (b' := bCr w') 3 0 _ (fun z z0 z1 => by unfold bCr; rw [h z z0 (by omega), h (z + 1) (by omega) (by omega)]), adr_cg (b := bWd w) (b' := bWd w') 2 0 _ (fun z z0 z1 => by unfold bWd; rw [h z z0 (by omega), h (z + 1) (by omega) (by omega)]), adr_cg (b := bTn T w) (b' := bTn T w') 3 0 _ (fun z z0 z1 => by unfold bTn; rw [h z z0 (by omega)])]
theorem fPa_cg (h : ∀ v : Int, 0 ≤ v → v ≤ 3 → w v = w' v) (g : ∀ v : Int, 0 ≤ v → v ≤ 3 → u v = u' v) : ∀ (r : Nat) (v : Int) (L : List Flt), 0 ≤ v → v + r = 4 → fPa w u i r v L = fPa w' u' i r v L
  | 0, _, _, _, _ => rfl
  | r + 1, v, L, h0, h1 => by
    rw [fPa_s, fPa_s, adr_cg (b := bPar w u v) (b' := bPar w' u' v) r (v + 1) L (fun z z0 z1 => bPar_cg (h v h0 (by omega)) (h z (by omega) (by omega)) (g v h0 (by omega)) (g z (by omega) (by omega)))]
    exact fPa_cg h g r (v + 1) _ (by omega) (by omega)
theorem fMv_cg (h : ∀ v : Int, 0 ≤ v → v ≤ 3 → w v = w' v) (g : ∀ v : Int, 0 ≤ v → v ≤ 3 → u v = u' v) : fMv ld sv w u (ltA T w) (ltA T' u) i L = fMv ld sv w' u' (ltA T w') (ltA T' u') i L := by
  unfold fMv fSt fSe fLe
  rw [fPa_cg h g 4 0 L (by omega) (by omega), adr_cg (b := bLea ld w u) (b' := bLea ld w' u') 4 0 _ (fun z z0 z1 => bLea_cg (h z z0 (by omega)) (g z z0 (by omega))), adr_cg (b := bSev sv w u) (b' := bSev sv w' u') 4 0 _ (fun z z0 z1 => bSev_cg (h z z0 (by omega)) (g z z0 (by omega))), adr_cg (b := bStp w u (ltA T w) (ltA T' u)) (b' := bStp w' u' (ltA T w') (ltA T' u')) 4 0 _ (fun z z0 z1 => bStp_cg (h z z0 (by omega)) (g z z0 (by omega)) (ltA_cg (h z z0 (by omega))) (ltA_cg (g z z0 (by omega))))]
theorem fMi_cg (h : ∀ v : Int, 0 ≤ v → v ≤ 3 → w v = w' v) : fMi T o w i L = fMi T o w' i L := by
  unfold fMi
  refine adr_cg _ 0 L (fun z z0 z1 => ?_)
  unfold bMi sng
  rw [anR_cg (g := fun v => if w v % 12 = clsAt T z then 1 else 0) (g' := fun v => if w' v % 12 = clsAt T z then 1 else 0) 4 0 (fun v v0 v1 => by rw [h v v0 (by omega)])]
theorem fAl_cg {E E' : Exm} {n : Nat} (h : ∀ i, i < n → E.1 i = E'.1 i ∧ E.2.1 i = E'.2.1 i ∧ E.2.2.1 i = E'.2.2.1 i ∧ E.2.2.2.1 i = E'.2.2.2.1 i ∧ ∀ v : Int, 0 ≤ v → v ≤ 3 → E.2.2.2.2 i v = E'.2.2.2.2 i v) : ∀ (r i : Nat) (L : List Flt), i + r = n → fAl E n r i L = fAl E' n r i L
  | 0, _, _, _ => rfl
  | r + 1, i, L, h1 => by
    obtain ⟨a1, a2, a3, a4, a5⟩ := h i (by omega)
    have e : fCh E n i L = fCh E' n i L := by
      unfold fCh fVM
      by_cases hi : i + 1 < n
      · obtain ⟨b1, b2, b3, b4, b5⟩ := h (i + 1) hi
        rw [if_pos hi, if_pos hi, a1, a2, a3, a4, b1, fMi_cg a5, fVo_cg a5, fMv_cg a5 b5]
      · rw [if_neg hi, if_neg hi, a1, a2, fMi_cg a5, fVo_cg a5]
    rw [fAl_s, fAl_s, e]
    exact fAl_cg h r (i + 1) _ (by omega)
end FC
/-- the state's examination -/
def exP (f mi : Int) (C : Nat → Cho) : Exm := (fun c => chT f (C c), fun c => opt (C c).2.2.2.1, fun _ => led f mi, fun c => svc (ful (C c).2.2.2.1) (chT f (C c)), fun c => sdP f (C c) (-1))
abbrev ftP (f mi : Int) (n : Nat) (C : Nat → Cho) : List Flt := flt (exP f mi C) n
/-- the state's search -/
def csP (f mi : Int) (n : Nat) (C : Nat → Cho) : Int → Int := cst (nP f C) (fP f mi C) (dP f C) (kP f mi C) (n - 1) 0
def bsP (f mi : Int) (n : Nat) (C : Nat → Cho) : Int := chp (csP f mi n C) (nP f C 0)
def wyP (f mi : Int) (n : Nat) (C : Nat → Cho) : Nat → Int := chs (fun i => fol (nP f C) (fP f mi C) (dP f C) (kP f mi C) (n - 2 - i) i) (bsP f mi n C)
section RL
variable {d : Nat} {σ σ' : Sg} {c : Nat} {f mi : Int} {n i : Nat} {C : Nat → Cho} {W : Option (Nat → Int)} {L : List Flt} {Q : Rs → Sg → Prop}
theorem p_faults (h : CI σ f mi n C W L) (hw : alW f C n 0) (q : ∀ σ', CI σ' f mi n C W (ftP f mi n C) → Q (.inl (some (vi ((ftP f mi n C).length : Int)))) σ') : Wm (d + 5) 11 [vr 8 0] σ Q := by
  have e0 := h.2.2.2.2.1
  have hn := h.2.2.1
  have hC := h.2.2.2.2.2.1
  have hB : ∀ i, i < n → ChB σ i f (C i) := fun i hi => (hC i (by omega)).bas (alW_at n 0 hw i (by omega) (by omega))
  have hE : ∀ i, i < n → ChE σ i (chT f (C i)) := fun i hi => by
    have hI := hC i (by omega)
    have hb := hB i hi
    have l1 := led_in f mi
    have c1 := clsAt_in (T := tns f (C i).1 (C i).2.1 (ful (C i).2.2.2.1)) (i := svi (ful (C i).2.2.2.1)) (chT_ok hb)
    refine ⟨hb.2.2.2.2.2.1.2.1, chT_ok hb, chT_len hI, ?_, ?_, ?_, fun v v0 v1 => ?_⟩
    · rw [hb.2.2.2.2.2.1.2.2.1]
      exact opt_in hb
    · rw [hI.2.2.2.1 (by have := hb.1; omega)]
      omega
    · rw [hb.2.2.2.2.2.1.2.2.2.1]
      unfold svc
      split <;> omega
    · rw [sO_pu hI ⟨v0, v1⟩]
      unfold sdP
      by_cases h3 : v = 3
      · rw [if_pos h3]
        have := hb.1
        omega
      · rw [if_neg h3, if_pos rfl]
        exact (hI.2.2.2.2.1 v v0 (by omega)).2
  have ef : flt (exm σ (fun i => chT f (C i))) n = ftP f mi n C := fAl_cg (E := exm σ (fun i => chT f (C i))) (E' := exP f mi C) (fun i hi => ⟨rfl, (hB i hi).2.2.2.2.2.1.2.2.1, (hC i (by omega)).2.2.2.1 (by have := (hB i hi).1; omega), (hB i hi).2.2.2.2.2.1.2.2.2.1, fun v v0 v1 => sO_pu (hC i (by omega)) ⟨v0, v1⟩⟩) n 0 [] (by omega)
  have fl : (ftP f mi n C).length ≤ 240 := flt_len (exP f mi C) hn.2 (fun i hi => chT_len (hC i (by omega)))
  rw [e11]
  simp (disch := first | omega | simp) only [u11_0, u11_1, u11_4, u11_5, u11_8, u11_9, u11_12, u11_13, u11_16, u11_19, o_8_0, fv_8_0_0, fv_8_0_1, fv_8_0_2, fv_8_0_3, fv_8_0_4, rf_8_0_4, o_8_1, fv_8_1_0, fv_8_1_1, rf_8_1_1, o_8_4, fv_8_4_0, fv_8_4_1, fv_8_4_2, fv_8_4_3, fv_8_4_4, fv_8_4_5, fv_8_4_6, rf_8_4_6, o_8_5, fv_8_5_0, fv_8_5_1, fv_8_5_2, fv_8_5_3, fv_8_5_4, rf_8_5_4, fv_8_5_5, rf_8_5_5, o_8_15, fv_8_15_0, fv_8_15_1, fv_8_15_2, fv_8_15_3, fv_8_15_4, rf_8_15_4, o_8_16, fv_8_16_0, fv_8_16_1, fv_8_16_2, fv_8_16_3, fv_8_16_4, rf_8_16_4, fv_8_16_5, rf_8_16_5, ia_8_2, is_8_2, ia_8_6, is_8_6, ia_8_7, is_8_7, ia_8_8, is_8_8, ia_8_9, is_8_9, ia_8_14, is_8_14, ia_8_17, is_8_17, ia_8_18, is_8_18, ia_8_19, is_8_19, ia_8_20, is_8_20, ia_8_21, is_8_21, ia_8_22, is_8_22, ia_8_23, is_8_23, iz_8_12, iz_8_13, aa_3, ar_3, aa_10, ar_10, aa_11, ar_11, ia_10, is_10, ia_11, is_11, Li_s, Lr_s, Ll_s, On_s, lget, lset, clr_i, clr_r, clr_n, Kc_i, Kc_v, Kc_x, true_and, and_true, List.length_cons, List.length_nil, nlg, isLn, List.all_cons, List.all_nil, Bool.and_true, Bool.not_false, Nat.zero_le, Nat.reduceAdd, Nat.reduceLeDiff, ↓reduceIte, Int.reduceLT, Int.reduceLE, Int.reduceAdd, Int.reduceSub, Int.reduceMul, Int.reduceNeg, Int.reduceToNat, Int.reduceEq, not_true_eq_false, not_false_eq_true, Int.toNat_zero, true_or, or_true]
  rw [(r_ckA h hw).iff]
  simp (disch := first | omega | simp) only [u11_0, u11_1, u11_4, u11_5, u11_8, u11_9, u11_12, u11_13, u11_16, u11_19, o_8_0, fv_8_0_0, fv_8_0_1, fv_8_0_2, fv_8_0_3, fv_8_0_4, rf_8_0_4, o_8_1, fv_8_1_0, fv_8_1_1, rf_8_1_1, o_8_4, fv_8_4_0, fv_8_4_1, fv_8_4_2, fv_8_4_3, fv_8_4_4, fv_8_4_5, fv_8_4_6, rf_8_4_6, o_8_5, fv_8_5_0, fv_8_5_1, fv_8_5_2, fv_8_5_3, fv_8_5_4, rf_8_5_4, fv_8_5_5, rf_8_5_5, o_8_15, fv_8_15_0, fv_8_15_1, fv_8_15_2, fv_8_15_3, fv_8_15_4, rf_8_15_4, o_8_16, fv_8_16_0, fv_8_16_1, fv_8_16_2, fv_8_16_3, fv_8_16_4, rf_8_16_4, fv_8_16_5, rf_8_16_5, ia_8_2, is_8_2, ia_8_6, is_8_6, ia_8_7, is_8_7, ia_8_8, is_8_8, ia_8_9, is_8_9, ia_8_14, is_8_14, ia_8_17, is_8_17, ia_8_18, is_8_18, ia_8_19, is_8_19, ia_8_20, is_8_20, ia_8_21, is_8_21, ia_8_22, is_8_22, ia_8_23, is_8_23, iz_8_12, iz_8_13, aa_3, ar_3, aa_10, ar_10, aa_11, ar_11, ia_10, is_10, ia_11, is_11, e0, Li_s, Lr_s, Ll_s, On_s, lget, lset, clr_i, clr_r, clr_n, Kc_i, Kc_v, Kc_x, true_and, and_true, List.length_cons, List.length_nil, nlg, isLn, List.all_cons, List.all_nil, Bool.and_true, Bool.not_false, Nat.zero_le, Nat.reduceAdd, Nat.reduceLeDiff, ↓reduceIte, Int.reduceLT, Int.reduceLE, Int.reduceAdd, Int.reduceSub, Int.reduceMul, Int.reduceNeg, Int.reduceToNat, Int.reduceEq, not_true_eq_false, not_false_eq_true, Int.toNat_zero, true_or, or_true]
  refine w_look (T := fun i => chT f (C i)) hn.2 hE (fun σ2 hL2 hF => ?_)
  rw [ef] at hL2
  rw [ef]
  simp (disch := first | omega | simp) only [u11_0, u11_1, u11_4, u11_5, u11_8, u11_9, u11_12, u11_13, u11_16, u11_19, o_8_0, fv_8_0_0, fv_8_0_1, fv_8_0_2, fv_8_0_3, fv_8_0_4, rf_8_0_4, o_8_1, fv_8_1_0, fv_8_1_1, rf_8_1_1, o_8_4, fv_8_4_0, fv_8_4_1, fv_8_4_2, fv_8_4_3, fv_8_4_4, fv_8_4_5, fv_8_4_6, rf_8_4_6, o_8_5, fv_8_5_0, fv_8_5_1, fv_8_5_2, fv_8_5_3, fv_8_5_4, rf_8_5_4, fv_8_5_5, rf_8_5_5, o_8_15, fv_8_15_0, fv_8_15_1, fv_8_15_2, fv_8_15_3, fv_8_15_4, rf_8_15_4, o_8_16, fv_8_16_0, fv_8_16_1, fv_8_16_2, fv_8_16_3, fv_8_16_4, rf_8_16_4, fv_8_16_5, rf_8_16_5, ia_8_2, is_8_2, ia_8_6, is_8_6, ia_8_7, is_8_7, ia_8_8, is_8_8, ia_8_9, is_8_9, ia_8_14, is_8_14, ia_8_17, is_8_17, ia_8_18, is_8_18, ia_8_19, is_8_19, ia_8_20, is_8_20, ia_8_21, is_8_21, ia_8_22, is_8_22, ia_8_23, is_8_23, iz_8_12, iz_8_13, aa_3, ar_3, aa_10, ar_10, aa_11, ar_11, ia_10, is_10, ia_11, is_11, Li_s, Lr_s, Ll_s, On_s, lget, lset, clr_i, clr_r, clr_n, Kc_i, Kc_v, Kc_x, true_and, and_true, List.length_cons, List.length_nil, nlg, isLn, List.all_cons, List.all_nil, Bool.and_true, Bool.not_false, Nat.zero_le, Nat.reduceAdd, Nat.reduceLeDiff, ↓reduceIte, Int.reduceLT, Int.reduceLE, Int.reduceAdd, Int.reduceSub, Int.reduceMul, Int.reduceNeg, Int.reduceToNat, Int.reduceEq, not_true_eq_false, not_false_eq_true, Int.toNat_zero, true_or, or_true]
  obtain ⟨h1, h2, h3, h4, h5, h6, h7, h8⟩ := h
  have e : ∀ g j k, ¬ frK g j k → σ2 g j k = σ g j k := fun g j k hn => hF g j k hn
  refine q σ2 ⟨h1, h2, h3, h4.fr (fun k => e _ _ _ (by simp [frK])) (e _ _ _ (by simp [frK])), (e _ _ _ (by simp [frK])).trans h5, fun i hi => (h6 i hi).fr (fun j k => e _ _ _ (by simp only [frK]; omega)), ⟨hL2, fl⟩, ?_⟩
  cases W with
  | none => exact (e _ _ _ (by simp [frK])).trans h8
  | some w =>
    refine ⟨(e _ _ _ (by simp [frK])).trans h8.1, fun i hi => ?_⟩
    obtain ⟨w1, w2, w3, w4⟩ := h8.2 i hi
    exact ⟨(e _ _ _ (by simp [frK])).trans w1, (e _ _ _ (by simp only [frK]; omega)).trans w2, w3, w4⟩
theorem p_faultsW (h : CI σ f mi n C W L) (hw : ¬ alW f C n 0) : Rn (d + 2) 11 [vr 8 0] σ (.inr 2) σ := by
  refine Rn.of ?_
  rw [e11]
  simp (disch := first | omega | simp) only [u11_0, u11_1, u11_4, u11_5, u11_8, u11_9, u11_12, u11_13, u11_16, u11_19, o_8_0, fv_8_0_0, fv_8_0_1, fv_8_0_2, fv_8_0_3, fv_8_0_4, rf_8_0_4, o_8_1, fv_8_1_0, fv_8_1_1, rf_8_1_1, o_8_4, fv_8_4_0, fv_8_4_1, fv_8_4_2, fv_8_4_3, fv_8_4_4, fv_8_4_5, fv_8_4_6, rf_8_4_6, o_8_5, fv_8_5_0, fv_8_5_1, fv_8_5_2, fv_8_5_3, fv_8_5_4, rf_8_5_4, fv_8_5_5, rf_8_5_5, o_8_15, fv_8_15_0, fv_8_15_1, fv_8_15_2, fv_8_15_3, fv_8_15_4, rf_8_15_4, o_8_16, fv_8_16_0, fv_8_16_1, fv_8_16_2, fv_8_16_3, fv_8_16_4, rf_8_16_4, fv_8_16_5, rf_8_16_5, ia_8_2, is_8_2, ia_8_6, is_8_6, ia_8_7, is_8_7, ia_8_8, is_8_8, ia_8_9, is_8_9, ia_8_14, is_8_14, ia_8_17, is_8_17, ia_8_18, is_8_18, ia_8_19, is_8_19, ia_8_20, is_8_20, ia_8_21, is_8_21, ia_8_22, is_8_22, ia_8_23, is_8_23, iz_8_12, iz_8_13, aa_3, ar_3, aa_10, ar_10, aa_11, ar_11, ia_10, is_10, ia_11, is_11, Li_s, Lr_s, Ll_s, On_s, lget, lset, clr_i, clr_r, clr_n, Kc_i, Kc_v, Kc_x, true_and, and_true, List.length_cons, List.length_nil, nlg, isLn, List.all_cons, List.all_nil, Bool.and_true, Bool.not_false, Nat.zero_le, Nat.reduceAdd, Nat.reduceLeDiff, ↓reduceIte, Int.reduceLT, Int.reduceLE, Int.reduceAdd, Int.reduceSub, Int.reduceMul, Int.reduceNeg, Int.reduceToNat, Int.reduceEq, not_true_eq_false, not_false_eq_true, Int.toNat_zero, true_or, or_true]
  rw [(r_ckA1 h hw).iff]
  simp (disch := first | omega | simp) only [u11_0, u11_1, u11_4, u11_5, u11_8, u11_9, u11_12, u11_13, u11_16, u11_19, o_8_0, fv_8_0_0, fv_8_0_1, fv_8_0_2, fv_8_0_3, fv_8_0_4, rf_8_0_4, o_8_1, fv_8_1_0, fv_8_1_1, rf_8_1_1, o_8_4, fv_8_4_0, fv_8_4_1, fv_8_4_2, fv_8_4_3, fv_8_4_4, fv_8_4_5, fv_8_4_6, rf_8_4_6, o_8_5, fv_8_5_0, fv_8_5_1, fv_8_5_2, fv_8_5_3, fv_8_5_4, rf_8_5_4, fv_8_5_5, rf_8_5_5, o_8_15, fv_8_15_0, fv_8_15_1, fv_8_15_2, fv_8_15_3, fv_8_15_4, rf_8_15_4, o_8_16, fv_8_16_0, fv_8_16_1, fv_8_16_2, fv_8_16_3, fv_8_16_4, rf_8_16_4, fv_8_16_5, rf_8_16_5, ia_8_2, is_8_2, ia_8_6, is_8_6, ia_8_7, is_8_7, ia_8_8, is_8_8, ia_8_9, is_8_9, ia_8_14, is_8_14, ia_8_17, is_8_17, ia_8_18, is_8_18, ia_8_19, is_8_19, ia_8_20, is_8_20, ia_8_21, is_8_21, ia_8_22, is_8_22, ia_8_23, is_8_23, iz_8_12, iz_8_13, aa_3, ar_3, aa_10, ar_10, aa_11, ar_11, ia_10, is_10, ia_11, is_11, Li_s, Lr_s, Ll_s, On_s, lget, lset, clr_i, clr_r, clr_n, Kc_i, Kc_v, Kc_x, true_and, and_true, List.length_cons, List.length_nil, nlg, isLn, List.all_cons, List.all_nil, Bool.and_true, Bool.not_false, Nat.zero_le, Nat.reduceAdd, Nat.reduceLeDiff, ↓reduceIte, Int.reduceLT, Int.reduceLE, Int.reduceAdd, Int.reduceSub, Int.reduceMul, Int.reduceNeg, Int.reduceToNat, Int.reduceEq, not_true_eq_false, not_false_eq_true, Int.toNat_zero, true_or, or_true]
theorem l_rl (hS : Sml) (hw : alW f C n 0) : ∀ (r i : Nat) (σ1 : Sg), i + r = n → CI σ1 f mi n C W L → (∀ j, j < i → σ1 j 0 17 = 1) → (∀ σ' y, CI σ' f mi n C W L → (∀ j, j < n → σ' j 0 17 = 1) → Wx (d + 6) 7 29 [some (vr 8 0), y] [] σ' Q) → Wx (d + 6) 7 6 [some (vr 8 0), some (vi (i : Int))] [] σ1 Q := by
  intro r
  induction r with
  | zero =>
    intro i σ1 h1 h hg k
    have e0 := h.2.2.2.2.1
    have hn := h.2.2.1
    rw [u7_6]
    simp (disch := first | omega | simp) only [u7_0, u7_1, u7_4, u7_5, u7_7, u7_8, u7_11, u7_14, u7_15, u7_18, u7_19, u7_20, u7_23, u7_26, u7_30, u7_33, u7_34, u7_37, u7_38, u7_41, u7_44, u7_45, u7_46, u7_47, u7_50, u7_51, u7_52, u7_55, u7_56, u7_59, u7_60, u7_63, u7_66, u7_67, u7_70, u7_71, o_8_0, fv_8_0_0, fv_8_0_1, fv_8_0_2, fv_8_0_3, fv_8_0_4, rf_8_0_4, o_8_1, fv_8_1_0, fv_8_1_1, rf_8_1_1, o_8_4, fv_8_4_0, fv_8_4_1, fv_8_4_2, fv_8_4_3, fv_8_4_4, fv_8_4_5, fv_8_4_6, rf_8_4_6, o_8_5, fv_8_5_0, fv_8_5_1, fv_8_5_2, fv_8_5_3, fv_8_5_4, rf_8_5_4, fv_8_5_5, rf_8_5_5, o_8_15, fv_8_15_0, fv_8_15_1, fv_8_15_2, fv_8_15_3, fv_8_15_4, rf_8_15_4, o_8_16, fv_8_16_0, fv_8_16_1, fv_8_16_2, fv_8_16_3, fv_8_16_4, rf_8_16_4, fv_8_16_5, rf_8_16_5, ia_8_2, is_8_2, ia_8_6, is_8_6, ia_8_7, is_8_7, ia_8_8, is_8_8, ia_8_9, is_8_9, ia_8_14, is_8_14, ia_8_17, is_8_17, ia_8_18, is_8_18, ia_8_19, is_8_19, ia_8_20, is_8_20, ia_8_21, is_8_21, ia_8_22, is_8_22, ia_8_23, is_8_23, iz_8_12, iz_8_13, aa_3, ar_3, aa_10, ar_10, aa_11, ar_11, ia_10, is_10, ia_11, is_11, e0, Li_s, Lr_s, Ll_s, On_s, lget, lset, clr_i, clr_r, clr_n, Kc_i, Kc_v, Kc_x, true_and, and_true, List.length_cons, List.length_nil, nlg, isLn, List.all_cons, List.all_nil, Bool.and_true, Bool.not_false, Nat.zero_le, Nat.reduceAdd, Nat.reduceLeDiff, ↓reduceIte, Int.reduceLT, Int.reduceLE, Int.reduceAdd, Int.reduceSub, Int.reduceMul, Int.reduceNeg, Int.reduceToNat, Int.reduceEq, not_true_eq_false, not_false_eq_true, Int.toNat_zero, true_or, or_true]
    rw [if_pos (by omega)]
    exact k σ1 _ h (fun j hj => hg j (by omega))
  | succ r ih =>
    intro i σ1 h1 h hg k
    have e0 := h.2.2.2.2.1
    have hn := h.2.2.1
    rw [u7_6]
    simp (disch := first | omega | simp) only [u7_0, u7_1, u7_4, u7_5, u7_7, u7_8, u7_11, u7_14, u7_15, u7_18, u7_19, u7_20, u7_23, u7_26, u7_30, u7_33, u7_34, u7_37, u7_38, u7_41, u7_44, u7_45, u7_46, u7_47, u7_50, u7_51, u7_52, u7_55, u7_56, u7_59, u7_60, u7_63, u7_66, u7_67, u7_70, u7_71, o_8_0, fv_8_0_0, fv_8_0_1, fv_8_0_2, fv_8_0_3, fv_8_0_4, rf_8_0_4, o_8_1, fv_8_1_0, fv_8_1_1, rf_8_1_1, o_8_4, fv_8_4_0, fv_8_4_1, fv_8_4_2, fv_8_4_3, fv_8_4_4, fv_8_4_5, fv_8_4_6, rf_8_4_6, o_8_5, fv_8_5_0, fv_8_5_1, fv_8_5_2, fv_8_5_3, fv_8_5_4, rf_8_5_4, fv_8_5_5, rf_8_5_5, o_8_15, fv_8_15_0, fv_8_15_1, fv_8_15_2, fv_8_15_3, fv_8_15_4, rf_8_15_4, o_8_16, fv_8_16_0, fv_8_16_1, fv_8_16_2, fv_8_16_3, fv_8_16_4, rf_8_16_4, fv_8_16_5, rf_8_16_5, ia_8_2, is_8_2, ia_8_6, is_8_6, ia_8_7, is_8_7, ia_8_8, is_8_8, ia_8_9, is_8_9, ia_8_14, is_8_14, ia_8_17, is_8_17, ia_8_18, is_8_18, ia_8_19, is_8_19, ia_8_20, is_8_20, ia_8_21, is_8_21, ia_8_22, is_8_22, ia_8_23, is_8_23, iz_8_12, iz_8_13, aa_3, ar_3, aa_10, ar_10, aa_11, ar_11, ia_10, is_10, ia_11, is_11, o_c0, fv_c0_0, fv_c0_1, fv_c0_2, fv_c0_3, fv_c0_4, fv_c0_5, fv_c0_6, fv_c0_7, rf_c0_7, fv_c0_8, rf_c0_8, fv_c0_9, rf_c0_9, fv_c0_10, rf_c0_10, fv_c0_11, rf_c0_11, fv_c0_12, rf_c0_12, fv_c0_13, rf_c0_13, fv_c0_14, rf_c0_14, fv_c0_15, rf_c0_15, fv_c0_16, rf_c0_16, fv_c0_17, rf_c0_17, o_c1, fv_c1_0, fv_c1_1, fv_c1_2, rf_c1_2, o_c4, fv_c4_0, fv_c4_1, fv_c4_2, rf_c4_2, ia_c2, is_c2, ia_c3, is_c3, ia_c5, is_c5, ia_c6, is_c6, ia_c7, is_c7, ia_c8, is_c8, ia_c9, is_c9, ia_c10, is_c10, ia_c11, is_c11, e0, Int.toNat_natCast, Li_s, Lr_s, Ll_s, On_s, lget, lset, clr_i, clr_r, clr_n, Kc_i, Kc_v, Kc_x, true_and, and_true, List.length_cons, List.length_nil, nlg, isLn, List.all_cons, List.all_nil, Bool.and_true, Bool.not_false, Nat.zero_le, Nat.reduceAdd, Nat.reduceLeDiff, ↓reduceIte, Int.reduceLT, Int.reduceLE, Int.reduceAdd, Int.reduceSub, Int.reduceMul, Int.reduceNeg, Int.reduceToNat, Int.reduceEq, not_true_eq_false, not_false_eq_true, Int.toNat_zero, true_or, or_true]
    rw [if_neg (by omega)]
    refine w_gatherI hS (by omega) (h.2.2.2.2.2.1 i (by omega)) (alW_at n 0 hw i (by omega) (by omega)) (fun σ2 hI2 hg2 hP hF => ?_)
    simp (disch := first | omega | simp) only [u7_0, u7_1, u7_4, u7_5, u7_7, u7_8, u7_11, u7_14, u7_15, u7_18, u7_19, u7_20, u7_23, u7_26, u7_30, u7_33, u7_34, u7_37, u7_38, u7_41, u7_44, u7_45, u7_46, u7_47, u7_50, u7_51, u7_52, u7_55, u7_56, u7_59, u7_60, u7_63, u7_66, u7_67, u7_70, u7_71, o_8_0, fv_8_0_0, fv_8_0_1, fv_8_0_2, fv_8_0_3, fv_8_0_4, rf_8_0_4, o_8_1, fv_8_1_0, fv_8_1_1, rf_8_1_1, o_8_4, fv_8_4_0, fv_8_4_1, fv_8_4_2, fv_8_4_3, fv_8_4_4, fv_8_4_5, fv_8_4_6, rf_8_4_6, o_8_5, fv_8_5_0, fv_8_5_1, fv_8_5_2, fv_8_5_3, fv_8_5_4, rf_8_5_4, fv_8_5_5, rf_8_5_5, o_8_15, fv_8_15_0, fv_8_15_1, fv_8_15_2, fv_8_15_3, fv_8_15_4, rf_8_15_4, o_8_16, fv_8_16_0, fv_8_16_1, fv_8_16_2, fv_8_16_3, fv_8_16_4, rf_8_16_4, fv_8_16_5, rf_8_16_5, ia_8_2, is_8_2, ia_8_6, is_8_6, ia_8_7, is_8_7, ia_8_8, is_8_8, ia_8_9, is_8_9, ia_8_14, is_8_14, ia_8_17, is_8_17, ia_8_18, is_8_18, ia_8_19, is_8_19, ia_8_20, is_8_20, ia_8_21, is_8_21, ia_8_22, is_8_22, ia_8_23, is_8_23, iz_8_12, iz_8_13, aa_3, ar_3, aa_10, ar_10, aa_11, ar_11, ia_10, is_10, ia_11, is_11, Li_s, Lr_s, Ll_s, On_s, lget, lset, clr_i, clr_r, clr_n, Kc_i, Kc_v, Kc_x, true_and, and_true, List.length_cons, List.length_nil, nlg, isLn, List.all_cons, List.all_nil, Bool.and_true, Bool.not_false, Nat.zero_le, Nat.reduceAdd, Nat.reduceLeDiff, ↓reduceIte, Int.reduceLT, Int.reduceLE, Int.reduceAdd, Int.reduceSub, Int.reduceMul, Int.reduceNeg, Int.reduceToNat, Int.reduceEq, not_true_eq_false, not_false_eq_true, Int.toNat_zero, true_or, or_true]
    rw [show (i : Int) + 1 = ((i + 1 : Nat) : Int) by omega]
    refine ih (i + 1) σ2 (by omega) (h.gat (by omega) hI2 hg2 hF) (fun j hj => ?_) k
    by_cases hji : j = i
    · subst hji
      exact hg2
    · rw [hF j 0 17 (by simp only [frH]; omega)]
      exact hg j (by omega)
/-- the state's memory after the search -/
theorem CI.src (h : CI σ f mi n C W L) {W' : Option (Nat → Int)} (hF : Fr (fun g j k => (g = 8 ∧ ((5 ≤ j ∧ j ≤ 9) ∨ (12 ≤ j ∧ j ≤ 14) ∨ (j = 4 ∧ k = 6))) ∨ g = 10 ∨ g = 11) σ σ') (hW : LdI σ' f n C W') : CI σ' f mi n C W' L := by
  obtain ⟨h1, h2, h3, h4, h5, h6, h7, h8⟩ := h
  exact ⟨h1, h2, h3, h4.fr (fun k => hF _ _ _ (by omega)) (hF _ _ _ (by omega)), (hF _ _ _ (by omega)).trans h5, fun i hi => (h6 i hi).fr (fun j k => hF _ _ _ (by omega)), ⟨h7.1.fr (hF _ _ _ (by omega)) (fun j k j1 j2 => hF _ _ _ (by omega)), h7.2⟩, hW⟩
theorem p_realise (hS : Sml) (h : CI σ f mi n C W L) (hw : alW f C n 0)
    (q1 : bsP f mi n C = -1 → ∀ σ', CI σ' f mi n C none L → Q (.inl (some (vi (-1 - ((fuR (nP f C) (kP f mi C) (n - 1) 0 : Nat) : Int))))) σ')
    (q2 : ¬ bsP f mi n C = -1 → ∀ σ', CI σ' f mi n C (some (wyP f mi n C)) L → Q (.inl (some (vi (csP f mi n C (bsP f mi n C))))) σ') : Wm (d + 6) 7 [vr 8 0] σ Q := by
  rw [e7]
  simp (disch := first | omega | simp) only [u7_0, u7_1, u7_4, u7_5, u7_7, u7_8, u7_11, u7_14, u7_15, u7_18, u7_19, u7_20, u7_23, u7_26, u7_29, u7_30, u7_33, u7_34, u7_37, u7_38, u7_41, u7_44, u7_45, u7_46, u7_47, u7_50, u7_51, u7_52, u7_55, u7_56, u7_59, u7_60, u7_63, u7_66, u7_67, u7_70, u7_71, o_8_0, fv_8_0_0, fv_8_0_1, fv_8_0_2, fv_8_0_3, fv_8_0_4, rf_8_0_4, o_8_1, fv_8_1_0, fv_8_1_1, rf_8_1_1, o_8_4, fv_8_4_0, fv_8_4_1, fv_8_4_2, fv_8_4_3, fv_8_4_4, fv_8_4_5, fv_8_4_6, rf_8_4_6, o_8_5, fv_8_5_0, fv_8_5_1, fv_8_5_2, fv_8_5_3, fv_8_5_4, rf_8_5_4, fv_8_5_5, rf_8_5_5, o_8_15, fv_8_15_0, fv_8_15_1, fv_8_15_2, fv_8_15_3, fv_8_15_4, rf_8_15_4, o_8_16, fv_8_16_0, fv_8_16_1, fv_8_16_2, fv_8_16_3, fv_8_16_4, rf_8_16_4, fv_8_16_5, rf_8_16_5, ia_8_2, is_8_2, ia_8_6, is_8_6, ia_8_7, is_8_7, ia_8_8, is_8_8, ia_8_9, is_8_9, ia_8_14, is_8_14, ia_8_17, is_8_17, ia_8_18, is_8_18, ia_8_19, is_8_19, ia_8_20, is_8_20, ia_8_21, is_8_21, ia_8_22, is_8_22, ia_8_23, is_8_23, iz_8_12, iz_8_13, aa_3, ar_3, aa_10, ar_10, aa_11, ar_11, ia_10, is_10, ia_11, is_11, Li_s, Lr_s, Ll_s, On_s, lget, lset, clr_i, clr_r, clr_n, Kc_i, Kc_v, Kc_x, true_and, and_true, List.length_cons, List.length_nil, nlg, isLn, List.all_cons, List.all_nil, Bool.and_true, Bool.not_false, Nat.zero_le, Nat.reduceAdd, Nat.reduceLeDiff, ↓reduceIte, Int.reduceLT, Int.reduceLE, Int.reduceAdd, Int.reduceSub, Int.reduceMul, Int.reduceNeg, Int.reduceToNat, Int.reduceEq, not_true_eq_false, not_false_eq_true, Int.toNat_zero, true_or, or_true]
  rw [(r_ckA h hw).iff]
  simp (disch := first | omega | simp) only [u7_0, u7_1, u7_4, u7_5, u7_7, u7_8, u7_11, u7_14, u7_15, u7_18, u7_19, u7_20, u7_23, u7_26, u7_29, u7_30, u7_33, u7_34, u7_37, u7_38, u7_41, u7_44, u7_45, u7_46, u7_47, u7_50, u7_51, u7_52, u7_55, u7_56, u7_59, u7_60, u7_63, u7_66, u7_67, u7_70, u7_71, o_8_0, fv_8_0_0, fv_8_0_1, fv_8_0_2, fv_8_0_3, fv_8_0_4, rf_8_0_4, o_8_1, fv_8_1_0, fv_8_1_1, rf_8_1_1, o_8_4, fv_8_4_0, fv_8_4_1, fv_8_4_2, fv_8_4_3, fv_8_4_4, fv_8_4_5, fv_8_4_6, rf_8_4_6, o_8_5, fv_8_5_0, fv_8_5_1, fv_8_5_2, fv_8_5_3, fv_8_5_4, rf_8_5_4, fv_8_5_5, rf_8_5_5, o_8_15, fv_8_15_0, fv_8_15_1, fv_8_15_2, fv_8_15_3, fv_8_15_4, rf_8_15_4, o_8_16, fv_8_16_0, fv_8_16_1, fv_8_16_2, fv_8_16_3, fv_8_16_4, rf_8_16_4, fv_8_16_5, rf_8_16_5, ia_8_2, is_8_2, ia_8_6, is_8_6, ia_8_7, is_8_7, ia_8_8, is_8_8, ia_8_9, is_8_9, ia_8_14, is_8_14, ia_8_17, is_8_17, ia_8_18, is_8_18, ia_8_19, is_8_19, ia_8_20, is_8_20, ia_8_21, is_8_21, ia_8_22, is_8_22, ia_8_23, is_8_23, iz_8_12, iz_8_13, aa_3, ar_3, aa_10, ar_10, aa_11, ar_11, ia_10, is_10, ia_11, is_11, Li_s, Lr_s, Ll_s, On_s, lget, lset, clr_i, clr_r, clr_n, Kc_i, Kc_v, Kc_x, true_and, and_true, List.length_cons, List.length_nil, nlg, isLn, List.all_cons, List.all_nil, Bool.and_true, Bool.not_false, Nat.zero_le, Nat.reduceAdd, Nat.reduceLeDiff, ↓reduceIte, Int.reduceLT, Int.reduceLE, Int.reduceAdd, Int.reduceSub, Int.reduceMul, Int.reduceNeg, Int.reduceToNat, Int.reduceEq, not_true_eq_false, not_false_eq_true, Int.toNat_zero, true_or, or_true]
  refine l_rl hS hw n 0 σ (by omega) h (fun j hj => by omega) (fun σ1 y h1 hg => ?_)
  have e0 := h1.2.2.2.2.1
  have hn := h1.2.2.1
  have hC := h1.2.2.2.2.2.1
  have hG : ∀ i, i < n → ChG σ1 i (chT f (C i)) (nP f C i) := fun i hi => ((hC i (by omega)).chG hS (hg i hi)).1
  have ag := agr hS hn.2 hC hg
  have ec : ∀ z : Int, 0 ≤ z → z < nP f C 0 → cs0 σ1 (fun i => chT f (C i)) (nP f C) n z = csP f mi n C z := fun z z0 z1 => cst_cg ag (n - 1) 0 z (by omega) z0 z1
  have eb : chp (cs0 σ1 (fun i => chT f (C i)) (nP f C) n) (nP f C 0) = bsP f mi n C := chp_cg ec
  simp (disch := first | omega | simp) only [u7_0, u7_1, u7_4, u7_5, u7_7, u7_8, u7_11, u7_14, u7_15, u7_18, u7_19, u7_20, u7_23, u7_26, u7_29, u7_30, u7_33, u7_34, u7_37, u7_38, u7_41, u7_44, u7_45, u7_46, u7_47, u7_50, u7_51, u7_52, u7_55, u7_56, u7_59, u7_60, u7_63, u7_66, u7_67, u7_70, u7_71, o_8_0, fv_8_0_0, fv_8_0_1, fv_8_0_2, fv_8_0_3, fv_8_0_4, rf_8_0_4, o_8_1, fv_8_1_0, fv_8_1_1, rf_8_1_1, o_8_4, fv_8_4_0, fv_8_4_1, fv_8_4_2, fv_8_4_3, fv_8_4_4, fv_8_4_5, fv_8_4_6, rf_8_4_6, o_8_5, fv_8_5_0, fv_8_5_1, fv_8_5_2, fv_8_5_3, fv_8_5_4, rf_8_5_4, fv_8_5_5, rf_8_5_5, o_8_15, fv_8_15_0, fv_8_15_1, fv_8_15_2, fv_8_15_3, fv_8_15_4, rf_8_15_4, o_8_16, fv_8_16_0, fv_8_16_1, fv_8_16_2, fv_8_16_3, fv_8_16_4, rf_8_16_4, fv_8_16_5, rf_8_16_5, ia_8_2, is_8_2, ia_8_6, is_8_6, ia_8_7, is_8_7, ia_8_8, is_8_8, ia_8_9, is_8_9, ia_8_14, is_8_14, ia_8_17, is_8_17, ia_8_18, is_8_18, ia_8_19, is_8_19, ia_8_20, is_8_20, ia_8_21, is_8_21, ia_8_22, is_8_22, ia_8_23, is_8_23, iz_8_12, iz_8_13, aa_3, ar_3, aa_10, ar_10, aa_11, ar_11, ia_10, is_10, ia_11, is_11, e0, Li_s, Lr_s, Ll_s, On_s, lget, lset, clr_i, clr_r, clr_n, Kc_i, Kc_v, Kc_x, true_and, and_true, List.length_cons, List.length_nil, nlg, isLn, List.all_cons, List.all_nil, Bool.and_true, Bool.not_false, Nat.zero_le, Nat.reduceAdd, Nat.reduceLeDiff, ↓reduceIte, Int.reduceLT, Int.reduceLE, Int.reduceAdd, Int.reduceSub, Int.reduceMul, Int.reduceNeg, Int.reduceToNat, Int.reduceEq, not_true_eq_false, not_false_eq_true, Int.toNat_zero, true_or, or_true]
  refine w_write (T := fun i => chT f (C i)) (N := nP f C) hn (fun i hi => hG i hi) (fun hb σ2 hz hF => ?_) (fun hb σ2 hz hW hF => ?_)
  · rw [eb] at hb
    have h2 : CI σ2 f mi n C none L := h1.src (hF.mono (fun g j k q => by simp only [frZ] at q ⊢; omega)) hz
    have e2 := h2.2.2.2.2.1
    have hg2 : ∀ j, j < n → σ2 j 0 17 = 1 := fun j hj => by
      rw [hF j 0 17 (by simp only [frZ]; omega)]
      exact hg j hj
    have hG2 : ∀ i, i < n → ChG σ2 i (chT f (C i)) (nP f C i) := fun i hi => ((h2.2.2.2.2.2.1 i (by omega)).chG hS (hg2 i hi)).1
    have ag2 := agr hS hn.2 h2.2.2.2.2.2.1 hg2
    simp (disch := first | omega | simp) only [u7_0, u7_1, u7_4, u7_5, u7_7, u7_8, u7_11, u7_14, u7_15, u7_18, u7_19, u7_20, u7_23, u7_26, u7_29, u7_30, u7_33, u7_34, u7_37, u7_38, u7_41, u7_44, u7_45, u7_46, u7_47, u7_50, u7_51, u7_52, u7_55, u7_56, u7_59, u7_60, u7_63, u7_66, u7_67, u7_70, u7_71, o_8_0, fv_8_0_0, fv_8_0_1, fv_8_0_2, fv_8_0_3, fv_8_0_4, rf_8_0_4, o_8_1, fv_8_1_0, fv_8_1_1, rf_8_1_1, o_8_4, fv_8_4_0, fv_8_4_1, fv_8_4_2, fv_8_4_3, fv_8_4_4, fv_8_4_5, fv_8_4_6, rf_8_4_6, o_8_5, fv_8_5_0, fv_8_5_1, fv_8_5_2, fv_8_5_3, fv_8_5_4, rf_8_5_4, fv_8_5_5, rf_8_5_5, o_8_15, fv_8_15_0, fv_8_15_1, fv_8_15_2, fv_8_15_3, fv_8_15_4, rf_8_15_4, o_8_16, fv_8_16_0, fv_8_16_1, fv_8_16_2, fv_8_16_3, fv_8_16_4, rf_8_16_4, fv_8_16_5, rf_8_16_5, ia_8_2, is_8_2, ia_8_6, is_8_6, ia_8_7, is_8_7, ia_8_8, is_8_8, ia_8_9, is_8_9, ia_8_14, is_8_14, ia_8_17, is_8_17, ia_8_18, is_8_18, ia_8_19, is_8_19, ia_8_20, is_8_20, ia_8_21, is_8_21, ia_8_22, is_8_22, ia_8_23, is_8_23, iz_8_12, iz_8_13, aa_3, ar_3, aa_10, ar_10, aa_11, ar_11, ia_10, is_10, ia_11, is_11, e2, Li_s, Lr_s, Ll_s, On_s, lget, lset, clr_i, clr_r, clr_n, Kc_i, Kc_v, Kc_x, true_and, and_true, List.length_cons, List.length_nil, nlg, isLn, List.all_cons, List.all_nil, Bool.and_true, Bool.not_false, Nat.zero_le, Nat.reduceAdd, Nat.reduceLeDiff, ↓reduceIte, Int.reduceLT, Int.reduceLE, Int.reduceAdd, Int.reduceSub, Int.reduceMul, Int.reduceNeg, Int.reduceToNat, Int.reduceEq, not_true_eq_false, not_false_eq_true, Int.toNat_zero, true_or, or_true]
    refine w_first (T := fun i => chT f (C i)) (N := nP f C) hn (fun i hi => hG2 i hi) (fun σ3 hF3 => ?_)
    rw [fuR_cg ag2 (n - 1) 0 (by omega)]
    simp (disch := first | omega | simp) only [u7_0, u7_1, u7_4, u7_5, u7_7, u7_8, u7_11, u7_14, u7_15, u7_18, u7_19, u7_20, u7_23, u7_26, u7_29, u7_30, u7_33, u7_34, u7_37, u7_38, u7_41, u7_44, u7_45, u7_46, u7_47, u7_50, u7_51, u7_52, u7_55, u7_56, u7_59, u7_60, u7_63, u7_66, u7_67, u7_70, u7_71, o_8_0, fv_8_0_0, fv_8_0_1, fv_8_0_2, fv_8_0_3, fv_8_0_4, rf_8_0_4, o_8_1, fv_8_1_0, fv_8_1_1, rf_8_1_1, o_8_4, fv_8_4_0, fv_8_4_1, fv_8_4_2, fv_8_4_3, fv_8_4_4, fv_8_4_5, fv_8_4_6, rf_8_4_6, o_8_5, fv_8_5_0, fv_8_5_1, fv_8_5_2, fv_8_5_3, fv_8_5_4, rf_8_5_4, fv_8_5_5, rf_8_5_5, o_8_15, fv_8_15_0, fv_8_15_1, fv_8_15_2, fv_8_15_3, fv_8_15_4, rf_8_15_4, o_8_16, fv_8_16_0, fv_8_16_1, fv_8_16_2, fv_8_16_3, fv_8_16_4, rf_8_16_4, fv_8_16_5, rf_8_16_5, ia_8_2, is_8_2, ia_8_6, is_8_6, ia_8_7, is_8_7, ia_8_8, is_8_8, ia_8_9, is_8_9, ia_8_14, is_8_14, ia_8_17, is_8_17, ia_8_18, is_8_18, ia_8_19, is_8_19, ia_8_20, is_8_20, ia_8_21, is_8_21, ia_8_22, is_8_22, ia_8_23, is_8_23, iz_8_12, iz_8_13, aa_3, ar_3, aa_10, ar_10, aa_11, ar_11, ia_10, is_10, ia_11, is_11, Li_s, Lr_s, Ll_s, On_s, lget, lset, clr_i, clr_r, clr_n, Kc_i, Kc_v, Kc_x, true_and, and_true, List.length_cons, List.length_nil, nlg, isLn, List.all_cons, List.all_nil, Bool.and_true, Bool.not_false, Nat.zero_le, Nat.reduceAdd, Nat.reduceLeDiff, ↓reduceIte, Int.reduceLT, Int.reduceLE, Int.reduceAdd, Int.reduceSub, Int.reduceMul, Int.reduceNeg, Int.reduceToNat, Int.reduceEq, not_true_eq_false, not_false_eq_true, Int.toNat_zero, true_or, or_true]
    refine q1 hb σ3 (h2.src (hF3.mono (fun g j k q => by simp only [frN] at q ⊢; omega)) ?_)
    exact (hF3 8 4 6 (by simp only [frN]; omega)).trans hz
  · rw [eb] at hb hW
    rw [eb]
    have ci := chp_in (csP f mi n C) (nP f C 0)
    have cb : 0 ≤ bsP f mi n C ∧ bsP f mi n C < nP f C 0 ∧ ¬ csP f mi n C (bsP f mi n C) = -1 := by
      rcases ci with h | h
      · exact absurd h hb
      · exact h
    rw [ec _ cb.1 cb.2.1]
    have wi := way_in (σ := σ1) (T := fun i => chT f (C i)) (N := nP f C) (n := n) ⟨cb.1, cb.2.1⟩ (by rw [show cst (nP f C) (feA σ1) (dsA σ1) (kpA σ1 (fun i => chT f (C i))) (n - 1) 0 (bsP f mi n C) = csP f mi n C (bsP f mi n C) from ec _ cb.1 cb.2.1]; exact cb.2.2)
    have ew : ∀ i, i < n → way σ1 (fun i => chT f (C i)) (nP f C) n (bsP f mi n C) i = wyP f mi n C i := by
      intro i
      induction i with
      | zero => exact fun _ => rfl
      | succ i ih =>
        intro hi
        have w0 := wi i (by omega)
        have := ih (by omega)
        show fol (nP f C) (feA σ1) (dsA σ1) (kpA σ1 (fun i => chT f (C i))) (n - 2 - i) i (way σ1 (fun i => chT f (C i)) (nP f C) n (bsP f mi n C) i) = fol (nP f C) (fP f mi C) (dP f C) (kP f mi C) (n - 2 - i) i (wyP f mi n C i)
        rw [fol_cg ag (n - 2 - i) i _ (by omega) w0.1 w0.2.1, this]
    have hcb : ¬ csP f mi n C (bsP f mi n C) = -1 := cb.2.2
    have cr := cst_in (σ := σ1) (T := fun i => chT f (C i)) (N := nP f C) (n := n) (fun i hi => hG i hi) (n - 1) 0 (bsP f mi n C) (by omega) cb.1 cb.2.1
    rw [show cst (nP f C) (feA σ1) (dsA σ1) (kpA σ1 (fun i => chT f (C i))) (n - 1) 0 (bsP f mi n C) = csP f mi n C (bsP f mi n C) from ec _ cb.1 cb.2.1] at cr
    simp (disch := first | omega | simp) only [u7_0, u7_1, u7_4, u7_5, u7_7, u7_8, u7_11, u7_14, u7_15, u7_18, u7_19, u7_20, u7_23, u7_26, u7_29, u7_30, u7_33, u7_34, u7_37, u7_38, u7_41, u7_44, u7_45, u7_46, u7_47, u7_50, u7_51, u7_52, u7_55, u7_56, u7_59, u7_60, u7_63, u7_66, u7_67, u7_70, u7_71, o_8_0, fv_8_0_0, fv_8_0_1, fv_8_0_2, fv_8_0_3, fv_8_0_4, rf_8_0_4, o_8_1, fv_8_1_0, fv_8_1_1, rf_8_1_1, o_8_4, fv_8_4_0, fv_8_4_1, fv_8_4_2, fv_8_4_3, fv_8_4_4, fv_8_4_5, fv_8_4_6, rf_8_4_6, o_8_5, fv_8_5_0, fv_8_5_1, fv_8_5_2, fv_8_5_3, fv_8_5_4, rf_8_5_4, fv_8_5_5, rf_8_5_5, o_8_15, fv_8_15_0, fv_8_15_1, fv_8_15_2, fv_8_15_3, fv_8_15_4, rf_8_15_4, o_8_16, fv_8_16_0, fv_8_16_1, fv_8_16_2, fv_8_16_3, fv_8_16_4, rf_8_16_4, fv_8_16_5, rf_8_16_5, ia_8_2, is_8_2, ia_8_6, is_8_6, ia_8_7, is_8_7, ia_8_8, is_8_8, ia_8_9, is_8_9, ia_8_14, is_8_14, ia_8_17, is_8_17, ia_8_18, is_8_18, ia_8_19, is_8_19, ia_8_20, is_8_20, ia_8_21, is_8_21, ia_8_22, is_8_22, ia_8_23, is_8_23, iz_8_12, iz_8_13, aa_3, ar_3, aa_10, ar_10, aa_11, ar_11, ia_10, is_10, ia_11, is_11, hcb, Li_s, Lr_s, Ll_s, On_s, lget, lset, clr_i, clr_r, clr_n, Kc_i, Kc_v, Kc_x, true_and, and_true, List.length_cons, List.length_nil, nlg, isLn, List.all_cons, List.all_nil, Bool.and_true, Bool.not_false, Nat.zero_le, Nat.reduceAdd, Nat.reduceLeDiff, ↓reduceIte, Int.reduceLT, Int.reduceLE, Int.reduceAdd, Int.reduceSub, Int.reduceMul, Int.reduceNeg, Int.reduceToNat, Int.reduceEq, not_true_eq_false, not_false_eq_true, Int.toNat_zero, true_or, or_true]
    refine q2 hb σ2 (h1.src (hF.mono (fun g j k q => by simp only [frZ] at q ⊢; omega)) ⟨hz, fun i hi => ?_⟩)
    have w0 := wi i hi
    rw [ew i hi] at w0
    exact ⟨(hW i hi).trans (ew i hi), by rw [hF i 0 17 (by simp only [frZ]; omega)]; exact hg i hi, w0.1, w0.2.1⟩
theorem p_realiseW (h : CI σ f mi n C W L) (hw : ¬ alW f C n 0) : Rn (d + 2) 7 [vr 8 0] σ (.inr 2) σ := by
  refine Rn.of ?_
  rw [e7]
  simp (disch := first | omega | simp) only [u7_0, u7_1, u7_4, u7_5, u7_7, u7_8, u7_11, u7_14, u7_15, u7_18, u7_19, u7_20, u7_23, u7_26, u7_29, u7_30, u7_33, u7_34, u7_37, u7_38, u7_41, u7_44, u7_45, u7_46, u7_47, u7_50, u7_51, u7_52, u7_55, u7_56, u7_59, u7_60, u7_63, u7_66, u7_67, u7_70, u7_71, o_8_0, fv_8_0_0, fv_8_0_1, fv_8_0_2, fv_8_0_3, fv_8_0_4, rf_8_0_4, o_8_1, fv_8_1_0, fv_8_1_1, rf_8_1_1, o_8_4, fv_8_4_0, fv_8_4_1, fv_8_4_2, fv_8_4_3, fv_8_4_4, fv_8_4_5, fv_8_4_6, rf_8_4_6, o_8_5, fv_8_5_0, fv_8_5_1, fv_8_5_2, fv_8_5_3, fv_8_5_4, rf_8_5_4, fv_8_5_5, rf_8_5_5, o_8_15, fv_8_15_0, fv_8_15_1, fv_8_15_2, fv_8_15_3, fv_8_15_4, rf_8_15_4, o_8_16, fv_8_16_0, fv_8_16_1, fv_8_16_2, fv_8_16_3, fv_8_16_4, rf_8_16_4, fv_8_16_5, rf_8_16_5, ia_8_2, is_8_2, ia_8_6, is_8_6, ia_8_7, is_8_7, ia_8_8, is_8_8, ia_8_9, is_8_9, ia_8_14, is_8_14, ia_8_17, is_8_17, ia_8_18, is_8_18, ia_8_19, is_8_19, ia_8_20, is_8_20, ia_8_21, is_8_21, ia_8_22, is_8_22, ia_8_23, is_8_23, iz_8_12, iz_8_13, aa_3, ar_3, aa_10, ar_10, aa_11, ar_11, ia_10, is_10, ia_11, is_11, Li_s, Lr_s, Ll_s, On_s, lget, lset, clr_i, clr_r, clr_n, Kc_i, Kc_v, Kc_x, true_and, and_true, List.length_cons, List.length_nil, nlg, isLn, List.all_cons, List.all_nil, Bool.and_true, Bool.not_false, Nat.zero_le, Nat.reduceAdd, Nat.reduceLeDiff, ↓reduceIte, Int.reduceLT, Int.reduceLE, Int.reduceAdd, Int.reduceSub, Int.reduceMul, Int.reduceNeg, Int.reduceToNat, Int.reduceEq, not_true_eq_false, not_false_eq_true, Int.toNat_zero, true_or, or_true]
  rw [(r_ckA1 h hw).iff]
  simp (disch := first | omega | simp) only [u7_0, u7_1, u7_4, u7_5, u7_7, u7_8, u7_11, u7_14, u7_15, u7_18, u7_19, u7_20, u7_23, u7_26, u7_29, u7_30, u7_33, u7_34, u7_37, u7_38, u7_41, u7_44, u7_45, u7_46, u7_47, u7_50, u7_51, u7_52, u7_55, u7_56, u7_59, u7_60, u7_63, u7_66, u7_67, u7_70, u7_71, o_8_0, fv_8_0_0, fv_8_0_1, fv_8_0_2, fv_8_0_3, fv_8_0_4, rf_8_0_4, o_8_1, fv_8_1_0, fv_8_1_1, rf_8_1_1, o_8_4, fv_8_4_0, fv_8_4_1, fv_8_4_2, fv_8_4_3, fv_8_4_4, fv_8_4_5, fv_8_4_6, rf_8_4_6, o_8_5, fv_8_5_0, fv_8_5_1, fv_8_5_2, fv_8_5_3, fv_8_5_4, rf_8_5_4, fv_8_5_5, rf_8_5_5, o_8_15, fv_8_15_0, fv_8_15_1, fv_8_15_2, fv_8_15_3, fv_8_15_4, rf_8_15_4, o_8_16, fv_8_16_0, fv_8_16_1, fv_8_16_2, fv_8_16_3, fv_8_16_4, rf_8_16_4, fv_8_16_5, rf_8_16_5, ia_8_2, is_8_2, ia_8_6, is_8_6, ia_8_7, is_8_7, ia_8_8, is_8_8, ia_8_9, is_8_9, ia_8_14, is_8_14, ia_8_17, is_8_17, ia_8_18, is_8_18, ia_8_19, is_8_19, ia_8_20, is_8_20, ia_8_21, is_8_21, ia_8_22, is_8_22, ia_8_23, is_8_23, iz_8_12, iz_8_13, aa_3, ar_3, aa_10, ar_10, aa_11, ar_11, ia_10, is_10, ia_11, is_11, Li_s, Lr_s, Ll_s, On_s, lget, lset, clr_i, clr_r, clr_n, Kc_i, Kc_v, Kc_x, true_and, and_true, List.length_cons, List.length_nil, nlg, isLn, List.all_cons, List.all_nil, Bool.and_true, Bool.not_false, Nat.zero_le, Nat.reduceAdd, Nat.reduceLeDiff, ↓reduceIte, Int.reduceLT, Int.reduceLE, Int.reduceAdd, Int.reduceSub, Int.reduceMul, Int.reduceNeg, Int.reduceToNat, Int.reduceEq, not_true_eq_false, not_false_eq_true, Int.toNat_zero, true_or, or_true]
end RL
