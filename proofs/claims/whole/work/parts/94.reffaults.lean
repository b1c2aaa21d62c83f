/-! THE REFERENCE: faults -/
section RFs
variable {d : Nat} {σ σ' : Sg} {c : Nat} {f mi : Int} {n : Nat} {C : Nat → Cho} {W : Option (Nat → Int)} {L L' : List Flt} {g : Int} {Q : Rs → Sg → Prop}
def frFX : Nat → Nat → Nat → Prop := fun g j k => frL g j k ∨ frFR g j k ∨ frFT g j k
theorem RI.fx (h : RI σ f mi n C W L) (hF : Fr frFX σ σ') (hL : FrI σ' L') (hl : L'.length ≤ 240) : RI σ' f mi n C W L' := by
  obtain ⟨h0, h1, h2, h3, h4, h5, h6, h7, h8, h9⟩ := h
  have e : ∀ j k, ¬ frFX 9 j k → σ' 9 j k = σ 9 j k := fun j k hn => hF 9 j k hn
  exact ⟨h0.fr (fun j k j1 j2 => e _ _ (by simp only [frFX, frL, frFR, frFT]; omega)), h1, h2, h3, (e _ _ (by simp only [frFX, frL, frFR, frFT]; omega)).trans h4, (e _ _ (by simp only [frFX, frL, frFR, frFT]; omega)).trans h5, (e _ _ (by simp only [frFX, frL, frFR, frFT]; omega)).trans h6, fun c hc => (h7 c hc).fr (fun j k hj => e _ _ (by simp only [frFX, frL, frFR, frFT]; omega)), ⟨hL, hl⟩, h9.fr (e _ _ (by simp only [frFX, frL, frFR, frFT]; omega)) (fun j k j1 j2 => e _ _ (by simp only [frFX, frL, frFR, frFT]; omega))⟩
theorem LaC.fx {j : Nat} {x : Cho} (h : LaC σ j f x 0) (hF : Fr frFX σ σ') : LaC σ' j f x 0 := by
  obtain ⟨h1, h2, h3, h4⟩ := h
  have e : ∀ q k, ¬ frFX 9 q k → σ' 9 q k = σ 9 q k := fun q k hn => hF 9 q k hn
  exact ⟨fun k hk => (e _ _ (by simp only [frFX, frL, frFR, frFT]; omega)).trans (h1 k hk), (e _ _ (by simp only [frFX, frL, frFR, frFT]; omega)).trans h2, (e _ _ (by simp only [frFX, frL, frFR, frFT]; omega)).trans h3, fun q => absurd q (by omega)⟩
theorem pu_in (h : RI σ f mi n C W L) {i : Nat} (hi : i < 8) (hb : ¬ (C i).2.2.1 = -1) : sIn (sdP f (C i) (-1)) := fun v v0 v1 => by
  have hb2 := (h.rc hi hb).2.1
  unfold sdP
  by_cases h3 : v = 3
  · rw [if_pos h3]
    omega
  · rw [if_neg h3, if_pos rfl]
    exact ((h.2.2.2.2.2.2.2.1 i hi).2.2.1 v v0 (by omega)).2
theorem l_fs (hb : ∀ i, i < n → ¬ (C i).2.2.1 = -1) : ∀ (r i : Nat) (σ1 : Sg) (L : List Flt), i + r = n → RI σ1 f mi n C W L → L.length ≤ 31 * i → (∀ j, j < n → LaC σ1 j f (C j) 0) → (∀ σ', RI σ' f mi n C W (fAl (exP f mi C) n r i L) → σ' 9 0 0 = σ1 9 0 0 → Q (.inl (some (vi ((fAl (exP f mi C) n r i L).length : Int)))) σ') → Wx (d + 6) 126 33 [some (vr 9 0), some (vi (i : Int))] [] σ1 Q := by
  intro r
  induction r with
  | zero =>
    intro i σ1 L h1 h hl hA k
    have e0 := h.2.2.2.2.2.2.1
    have e1 := h.2.2.2.2.2.2.2.2.1.1.1
    have hn := h.2.2.2.1
    rw [u126_33]
    simp (disch := first | omega | simp) only [u126_0, u126_1, u126_2, u126_3, u126_6, u126_9, u126_10, u126_13, u126_14, u126_17, u126_18, u126_21, u126_24, u126_25, u126_26, u126_27, u126_28, u126_31, u126_32, u126_34, u126_35, u126_38, u126_41, u126_42, u126_43, u126_46, u126_47, u126_48, u126_51, u126_52, u126_53, u126_56, u126_57, u126_58, u126_61, u126_62, u126_63, u126_66, u126_67, u126_68, u126_71, u126_74, u126_77, u126_78, u126_81, o_9_0, fv_9_0_0, rf_9_0_0, fv_9_0_1, fv_9_0_2, fv_9_0_3, fv_9_0_4, fv_9_0_5, rf_9_0_5, fv_9_0_6, rf_9_0_6, fv_9_0_7, rf_9_0_7, fv_9_0_8, fv_9_0_9, fv_9_0_10, fv_9_0_11, fv_9_0_12, fv_9_0_13, fv_9_0_14, rf_9_0_14, fv_9_0_15, fv_9_0_16, fv_9_0_17, rf_9_0_17, fv_9_0_18, fv_9_0_19, fv_9_0_20, rf_9_0_20, fv_9_0_21, rf_9_0_21, fv_9_0_22, rf_9_0_22, fv_9_0_23, fv_9_0_24, fv_9_0_25, fv_9_0_26, fv_9_0_27, fv_9_0_28, fv_9_0_29, fv_9_0_30, fv_9_0_31, fv_9_0_32, rf_9_0_32, fv_9_0_33, fv_9_0_34, fv_9_0_35, fv_9_0_36, rf_9_0_36, fv_9_0_37, fv_9_0_38, fv_9_0_39, fv_9_0_40, fv_9_0_41, ia_9_1, is_9_1, ia_9_2, is_9_2, ia_9_3, is_9_3, ia_9_4, is_9_4, ia_9_5, is_9_5, ia_9_6, is_9_6, ia_9_7, is_9_7, ia_9_8, is_9_8, ia_9_9, is_9_9, ia_9_10, is_9_10, ia_9_11, is_9_11, ia_9_12, is_9_12, ia_9_13, is_9_13, ia_9_14, is_9_14, ia_9_15, is_9_15, ia_9_16, is_9_16, ia_9_17, is_9_17, ia_9_18, is_9_18, ia_9_19, is_9_19, ia_9_20, is_9_20, ia_9_21, is_9_21, ia_9_22, is_9_22, ia_9_24, is_9_24, ia_9_25, is_9_25, ia_9_26, is_9_26, ia_9_27, is_9_27, ia_9_28, is_9_28, ia_9_29, is_9_29, ia_9_30, is_9_30, ia_9_31, is_9_31, iz_9_23, e0, e1, Li_s, Lr_s, Ll_s, On_s, lget, lset, clr_i, clr_r, clr_n, Kc_i, Kc_v, Kc_x, true_and, and_true, List.length_cons, List.length_nil, nlg, isLn, List.all_cons, List.all_nil, Bool.and_true, Bool.not_false, Nat.zero_le, Nat.reduceAdd, Nat.reduceLeDiff, ↓reduceIte, Int.reduceLT, Int.reduceLE, Int.reduceAdd, Int.reduceSub, Int.reduceMul, Int.reduceNeg, Int.reduceToNat, Int.reduceEq, not_true_eq_false, not_false_eq_true, Int.toNat_zero, true_or, or_true]
    rw [if_pos (by omega)]
    exact k σ1 h rfl
  | succ r ih =>
    intro i σ1 L h1 h hl hA k
    have e0 := h.2.2.2.2.2.2.1
    have hn := h.2.2.2.1
    obtain ⟨r1, r2, r3⟩ := h.rc (c := i) (by omega) (hb i (by omega))
    have fo := ful_ok' r1.2.2.2.2.2.2.2.1.2.1 r1.2.2.2.2.2.2.2.2
    have l4 : ((exP f mi C).1 i).length ≤ 4 := by
      show (chT f (C i)).length ≤ 4
      have := fo.2
      simp [chT, tns]
      omega
    have lV := fVM_len (exP f mi C) n i L
    have lC := fCh_len (exP f mi C) n i L l4
    have lO := fVo_len (chT f (C i)) (sdP f (C i) (-1)) (i : Int) L
    have lO2 := fVo_len (tns f (C i).1 (C i).2.1 (ful (C i).2.2.2.1)) (sdP f (C i) (-1)) (i : Int) L
    have sF := pu_in h (i := i) (by omega) (hb i (by omega))
    have hTo : TnOk (chT f (C i)) := tns_ok r1.2.2.2.2.2.1
    rw [fAl_s] at k
    have key : ∀ σ2, FrI σ2 (fVM (exP f mi C) n i L) → Fr frFX σ1 σ2 → FtM σ2 (sdP f (C i) (-1)) (nxP f n C i) → Wx (d + 6) 126 66 [some (vr 9 0), some (vi (i : Int))] [] σ2 Q := by
      intro σ2 hL2 hF2 hM2
      have hlv : (fVM (exP f mi C) n i L).length ≤ 236 := by split at lV <;> omega
      have h2 := h.fx hF2 hL2 (by omega)
      simp (disch := first | omega | simp) only [u126_0, u126_1, u126_2, u126_3, u126_6, u126_9, u126_10, u126_13, u126_14, u126_17, u126_18, u126_21, u126_24, u126_25, u126_26, u126_27, u126_28, u126_31, u126_32, u126_34, u126_35, u126_38, u126_41, u126_42, u126_43, u126_46, u126_47, u126_48, u126_51, u126_52, u126_53, u126_56, u126_57, u126_58, u126_61, u126_62, u126_63, u126_66, u126_67, u126_68, u126_71, u126_74, u126_77, u126_78, u126_81, o_9_0, fv_9_0_0, rf_9_0_0, fv_9_0_1, fv_9_0_2, fv_9_0_3, fv_9_0_4, fv_9_0_5, rf_9_0_5, fv_9_0_6, rf_9_0_6, fv_9_0_7, rf_9_0_7, fv_9_0_8, fv_9_0_9, fv_9_0_10, fv_9_0_11, fv_9_0_12, fv_9_0_13, fv_9_0_14, rf_9_0_14, fv_9_0_15, fv_9_0_16, fv_9_0_17, rf_9_0_17, fv_9_0_18, fv_9_0_19, fv_9_0_20, rf_9_0_20, fv_9_0_21, rf_9_0_21, fv_9_0_22, rf_9_0_22, fv_9_0_23, fv_9_0_24, fv_9_0_25, fv_9_0_26, fv_9_0_27, fv_9_0_28, fv_9_0_29, fv_9_0_30, fv_9_0_31, fv_9_0_32, rf_9_0_32, fv_9_0_33, fv_9_0_34, fv_9_0_35, fv_9_0_36, rf_9_0_36, fv_9_0_37, fv_9_0_38, fv_9_0_39, fv_9_0_40, fv_9_0_41, ia_9_1, is_9_1, ia_9_2, is_9_2, ia_9_3, is_9_3, ia_9_4, is_9_4, ia_9_5, is_9_5, ia_9_6, is_9_6, ia_9_7, is_9_7, ia_9_8, is_9_8, ia_9_9, is_9_9, ia_9_10, is_9_10, ia_9_11, is_9_11, ia_9_12, is_9_12, ia_9_13, is_9_13, ia_9_14, is_9_14, ia_9_15, is_9_15, ia_9_16, is_9_16, ia_9_17, is_9_17, ia_9_18, is_9_18, ia_9_19, is_9_19, ia_9_20, is_9_20, ia_9_21, is_9_21, ia_9_22, is_9_22, ia_9_24, is_9_24, ia_9_25, is_9_25, ia_9_26, is_9_26, ia_9_27, is_9_27, ia_9_28, is_9_28, ia_9_29, is_9_29, ia_9_30, is_9_30, ia_9_31, is_9_31, iz_9_23, Li_s, Lr_s, Ll_s, On_s, lget, lset, clr_i, clr_r, clr_n, Kc_i, Kc_v, Kc_x, true_and, and_true, List.length_cons, List.length_nil, nlg, isLn, List.all_cons, List.all_nil, Bool.and_true, Bool.not_false, Nat.zero_le, Nat.reduceAdd, Nat.reduceLeDiff, ↓reduceIte, Int.reduceLT, Int.reduceLE, Int.reduceAdd, Int.reduceSub, Int.reduceMul, Int.reduceNeg, Int.reduceToNat, Int.reduceEq, not_true_eq_false, not_false_eq_true, Int.toNat_zero, true_or, or_true]
      refine w_markTones (by omega) (h2.rc (c := i) (by omega) (hb i (by omega))).1 hM2 sF hL2 (by omega) (fun σ3 hL3 hF3 => ?_)
      have f3 : Fr frFX σ1 σ3 := hF2.tr (hF3.mono (fun g j k q => by rcases q with q | q; exact Or.inl q; exact Or.inr (Or.inl q)))
      simp (disch := first | omega | simp) only [u126_0, u126_1, u126_2, u126_3, u126_6, u126_9, u126_10, u126_13, u126_14, u126_17, u126_18, u126_21, u126_24, u126_25, u126_26, u126_27, u126_28, u126_31, u126_32, u126_34, u126_35, u126_38, u126_41, u126_42, u126_43, u126_46, u126_47, u126_48, u126_51, u126_52, u126_53, u126_56, u126_57, u126_58, u126_61, u126_62, u126_63, u126_66, u126_67, u126_68, u126_71, u126_74, u126_77, u126_78, u126_81, o_9_0, fv_9_0_0, rf_9_0_0, fv_9_0_1, fv_9_0_2, fv_9_0_3, fv_9_0_4, fv_9_0_5, rf_9_0_5, fv_9_0_6, rf_9_0_6, fv_9_0_7, rf_9_0_7, fv_9_0_8, fv_9_0_9, fv_9_0_10, fv_9_0_11, fv_9_0_12, fv_9_0_13, fv_9_0_14, rf_9_0_14, fv_9_0_15, fv_9_0_16, fv_9_0_17, rf_9_0_17, fv_9_0_18, fv_9_0_19, fv_9_0_20, rf_9_0_20, fv_9_0_21, rf_9_0_21, fv_9_0_22, rf_9_0_22, fv_9_0_23, fv_9_0_24, fv_9_0_25, fv_9_0_26, fv_9_0_27, fv_9_0_28, fv_9_0_29, fv_9_0_30, fv_9_0_31, fv_9_0_32, rf_9_0_32, fv_9_0_33, fv_9_0_34, fv_9_0_35, fv_9_0_36, rf_9_0_36, fv_9_0_37, fv_9_0_38, fv_9_0_39, fv_9_0_40, fv_9_0_41, ia_9_1, is_9_1, ia_9_2, is_9_2, ia_9_3, is_9_3, ia_9_4, is_9_4, ia_9_5, is_9_5, ia_9_6, is_9_6, ia_9_7, is_9_7, ia_9_8, is_9_8, ia_9_9, is_9_9, ia_9_10, is_9_10, ia_9_11, is_9_11, ia_9_12, is_9_12, ia_9_13, is_9_13, ia_9_14, is_9_14, ia_9_15, is_9_15, ia_9_16, is_9_16, ia_9_17, is_9_17, ia_9_18, is_9_18, ia_9_19, is_9_19, ia_9_20, is_9_20, ia_9_21, is_9_21, ia_9_22, is_9_22, ia_9_24, is_9_24, ia_9_25, is_9_25, ia_9_26, is_9_26, ia_9_27, is_9_27, ia_9_28, is_9_28, ia_9_29, is_9_29, ia_9_30, is_9_30, ia_9_31, is_9_31, iz_9_23, Li_s, Lr_s, Ll_s, On_s, lget, lset, clr_i, clr_r, clr_n, Kc_i, Kc_v, Kc_x, true_and, and_true, List.length_cons, List.length_nil, nlg, isLn, List.all_cons, List.all_nil, Bool.and_true, Bool.not_false, Nat.zero_le, Nat.reduceAdd, Nat.reduceLeDiff, ↓reduceIte, Int.reduceLT, Int.reduceLE, Int.reduceAdd, Int.reduceSub, Int.reduceMul, Int.reduceNeg, Int.reduceToNat, Int.reduceEq, not_true_eq_false, not_false_eq_true, Int.toNat_zero, true_or, or_true]
      rw [show (i : Int) + 1 = ((i + 1 : Nat) : Int) by omega]
      refine ih (i + 1) σ3 (fCh (exP f mi C) n i L) (by omega) (h.fx f3 hL3 (by split at lC <;> omega)) (by split at lC <;> omega) (fun j hj => (hA j hj).fx f3) (fun σ4 h4 q4 => k σ4 h4 (q4.trans (f3 9 0 0 (by simp only [frFX, frL, frFR, frFT]; omega))))
    rw [u126_33]
    simp (disch := first | omega | simp) only [u126_0, u126_1, u126_2, u126_3, u126_6, u126_9, u126_10, u126_13, u126_14, u126_17, u126_18, u126_21, u126_24, u126_25, u126_26, u126_27, u126_28, u126_31, u126_32, u126_34, u126_35, u126_38, u126_41, u126_42, u126_43, u126_46, u126_47, u126_48, u126_51, u126_52, u126_53, u126_56, u126_57, u126_58, u126_61, u126_62, u126_63, u126_67, u126_68, u126_71, u126_74, u126_77, u126_78, u126_81, o_9_0, fv_9_0_0, rf_9_0_0, fv_9_0_1, fv_9_0_2, fv_9_0_3, fv_9_0_4, fv_9_0_5, rf_9_0_5, fv_9_0_6, rf_9_0_6, fv_9_0_7, rf_9_0_7, fv_9_0_8, fv_9_0_9, fv_9_0_10, fv_9_0_11, fv_9_0_12, fv_9_0_13, fv_9_0_14, rf_9_0_14, fv_9_0_15, fv_9_0_16, fv_9_0_17, rf_9_0_17, fv_9_0_18, fv_9_0_19, fv_9_0_20, rf_9_0_20, fv_9_0_21, rf_9_0_21, fv_9_0_22, rf_9_0_22, fv_9_0_23, fv_9_0_24, fv_9_0_25, fv_9_0_26, fv_9_0_27, fv_9_0_28, fv_9_0_29, fv_9_0_30, fv_9_0_31, fv_9_0_32, rf_9_0_32, fv_9_0_33, fv_9_0_34, fv_9_0_35, fv_9_0_36, rf_9_0_36, fv_9_0_37, fv_9_0_38, fv_9_0_39, fv_9_0_40, fv_9_0_41, ia_9_1, is_9_1, ia_9_2, is_9_2, ia_9_3, is_9_3, ia_9_4, is_9_4, ia_9_5, is_9_5, ia_9_6, is_9_6, ia_9_7, is_9_7, ia_9_8, is_9_8, ia_9_9, is_9_9, ia_9_10, is_9_10, ia_9_11, is_9_11, ia_9_12, is_9_12, ia_9_13, is_9_13, ia_9_14, is_9_14, ia_9_15, is_9_15, ia_9_16, is_9_16, ia_9_17, is_9_17, ia_9_18, is_9_18, ia_9_19, is_9_19, ia_9_20, is_9_20, ia_9_21, is_9_21, ia_9_22, is_9_22, ia_9_24, is_9_24, ia_9_25, is_9_25, ia_9_26, is_9_26, ia_9_27, is_9_27, ia_9_28, is_9_28, ia_9_29, is_9_29, ia_9_30, is_9_30, ia_9_31, is_9_31, iz_9_23, e0, Li_s, Lr_s, Ll_s, On_s, lget, lset, clr_i, clr_r, clr_n, Kc_i, Kc_v, Kc_x, true_and, and_true, List.length_cons, List.length_nil, nlg, isLn, List.all_cons, List.all_nil, Bool.and_true, Bool.not_false, Nat.zero_le, Nat.reduceAdd, Nat.reduceLeDiff, ↓reduceIte, Int.reduceLT, Int.reduceLE, Int.reduceAdd, Int.reduceSub, Int.reduceMul, Int.reduceNeg, Int.reduceToNat, Int.reduceEq, not_true_eq_false, not_false_eq_true, Int.toNat_zero, true_or, or_true]
    rw [if_neg (by omega)]
    refine w_loadPupil (by omega) h hb (fun σ2 hM2 hF2 => ?_)
    have f2 : Fr frFX σ1 σ2 := hF2.mono (fun g j k q => Or.inr (Or.inr q))
    have h2 := h.ft hF2
    simp (disch := first | omega | simp) only [u126_0, u126_1, u126_2, u126_3, u126_6, u126_9, u126_10, u126_13, u126_14, u126_17, u126_18, u126_21, u126_24, u126_25, u126_26, u126_27, u126_28, u126_31, u126_32, u126_34, u126_35, u126_38, u126_41, u126_42, u126_43, u126_46, u126_47, u126_48, u126_51, u126_52, u126_53, u126_56, u126_57, u126_58, u126_61, u126_62, u126_63, u126_67, u126_68, u126_71, u126_74, u126_77, u126_78, u126_81, o_9_0, fv_9_0_0, rf_9_0_0, fv_9_0_1, fv_9_0_2, fv_9_0_3, fv_9_0_4, fv_9_0_5, rf_9_0_5, fv_9_0_6, rf_9_0_6, fv_9_0_7, rf_9_0_7, fv_9_0_8, fv_9_0_9, fv_9_0_10, fv_9_0_11, fv_9_0_12, fv_9_0_13, fv_9_0_14, rf_9_0_14, fv_9_0_15, fv_9_0_16, fv_9_0_17, rf_9_0_17, fv_9_0_18, fv_9_0_19, fv_9_0_20, rf_9_0_20, fv_9_0_21, rf_9_0_21, fv_9_0_22, rf_9_0_22, fv_9_0_23, fv_9_0_24, fv_9_0_25, fv_9_0_26, fv_9_0_27, fv_9_0_28, fv_9_0_29, fv_9_0_30, fv_9_0_31, fv_9_0_32, rf_9_0_32, fv_9_0_33, fv_9_0_34, fv_9_0_35, fv_9_0_36, rf_9_0_36, fv_9_0_37, fv_9_0_38, fv_9_0_39, fv_9_0_40, fv_9_0_41, ia_9_1, is_9_1, ia_9_2, is_9_2, ia_9_3, is_9_3, ia_9_4, is_9_4, ia_9_5, is_9_5, ia_9_6, is_9_6, ia_9_7, is_9_7, ia_9_8, is_9_8, ia_9_9, is_9_9, ia_9_10, is_9_10, ia_9_11, is_9_11, ia_9_12, is_9_12, ia_9_13, is_9_13, ia_9_14, is_9_14, ia_9_15, is_9_15, ia_9_16, is_9_16, ia_9_17, is_9_17, ia_9_18, is_9_18, ia_9_19, is_9_19, ia_9_20, is_9_20, ia_9_21, is_9_21, ia_9_22, is_9_22, ia_9_24, is_9_24, ia_9_25, is_9_25, ia_9_26, is_9_26, ia_9_27, is_9_27, ia_9_28, is_9_28, ia_9_29, is_9_29, ia_9_30, is_9_30, ia_9_31, is_9_31, iz_9_23, Li_s, Lr_s, Ll_s, On_s, lget, lset, clr_i, clr_r, clr_n, Kc_i, Kc_v, Kc_x, true_and, and_true, List.length_cons, List.length_nil, nlg, isLn, List.all_cons, List.all_nil, Bool.and_true, Bool.not_false, Nat.zero_le, Nat.reduceAdd, Nat.reduceLeDiff, ↓reduceIte, Int.reduceLT, Int.reduceLE, Int.reduceAdd, Int.reduceSub, Int.reduceMul, Int.reduceNeg, Int.reduceToNat, Int.reduceEq, not_true_eq_false, not_false_eq_true, Int.toNat_zero, true_or, or_true]
    refine w_markOne (to := nxP f n C i) (by omega) ⟨h2.1, ((hA i (by omega)).fx f2).1, hM2⟩ hTo sF h2.2.2.2.2.2.2.2.2.1.1 (by omega) (fun σ3 hL3 hF3 => ?_)
    have f3 : Fr frFX σ1 σ3 := f2.tr (hF3.mono (fun g j k q => Or.inr (Or.inl q)))
    have hM3 : FtM σ3 (sdP f (C i) (-1)) (nxP f n C i) := fun v v0 v1 => by
      rw [hF3 _ _ _ (by simp [frFR]), hF3 _ _ _ (by simp [frFR])]
      exact hM2 v v0 v1
    have h3 := h.fx f3 hL3 (by omega)
    have e3 := h3.2.2.2.2.2.2.1
    simp (disch := first | omega | simp) only [u126_0, u126_1, u126_2, u126_3, u126_6, u126_9, u126_10, u126_13, u126_14, u126_17, u126_18, u126_21, u126_24, u126_25, u126_26, u126_27, u126_28, u126_31, u126_32, u126_34, u126_35, u126_38, u126_41, u126_42, u126_43, u126_46, u126_47, u126_48, u126_51, u126_52, u126_53, u126_56, u126_57, u126_58, u126_61, u126_62, u126_63, u126_67, u126_68, u126_71, u126_74, u126_77, u126_78, u126_81, o_9_0, fv_9_0_0, rf_9_0_0, fv_9_0_1, fv_9_0_2, fv_9_0_3, fv_9_0_4, fv_9_0_5, rf_9_0_5, fv_9_0_6, rf_9_0_6, fv_9_0_7, rf_9_0_7, fv_9_0_8, fv_9_0_9, fv_9_0_10, fv_9_0_11, fv_9_0_12, fv_9_0_13, fv_9_0_14, rf_9_0_14, fv_9_0_15, fv_9_0_16, fv_9_0_17, rf_9_0_17, fv_9_0_18, fv_9_0_19, fv_9_0_20, rf_9_0_20, fv_9_0_21, rf_9_0_21, fv_9_0_22, rf_9_0_22, fv_9_0_23, fv_9_0_24, fv_9_0_25, fv_9_0_26, fv_9_0_27, fv_9_0_28, fv_9_0_29, fv_9_0_30, fv_9_0_31, fv_9_0_32, rf_9_0_32, fv_9_0_33, fv_9_0_34, fv_9_0_35, fv_9_0_36, rf_9_0_36, fv_9_0_37, fv_9_0_38, fv_9_0_39, fv_9_0_40, fv_9_0_41, ia_9_1, is_9_1, ia_9_2, is_9_2, ia_9_3, is_9_3, ia_9_4, is_9_4, ia_9_5, is_9_5, ia_9_6, is_9_6, ia_9_7, is_9_7, ia_9_8, is_9_8, ia_9_9, is_9_9, ia_9_10, is_9_10, ia_9_11, is_9_11, ia_9_12, is_9_12, ia_9_13, is_9_13, ia_9_14, is_9_14, ia_9_15, is_9_15, ia_9_16, is_9_16, ia_9_17, is_9_17, ia_9_18, is_9_18, ia_9_19, is_9_19, ia_9_20, is_9_20, ia_9_21, is_9_21, ia_9_22, is_9_22, ia_9_24, is_9_24, ia_9_25, is_9_25, ia_9_26, is_9_26, ia_9_27, is_9_27, ia_9_28, is_9_28, ia_9_29, is_9_29, ia_9_30, is_9_30, ia_9_31, is_9_31, iz_9_23, e3, Li_s, Lr_s, Ll_s, On_s, lget, lset, clr_i, clr_r, clr_n, Kc_i, Kc_v, Kc_x, true_and, and_true, List.length_cons, List.length_nil, nlg, isLn, List.all_cons, List.all_nil, Bool.and_true, Bool.not_false, Nat.zero_le, Nat.reduceAdd, Nat.reduceLeDiff, ↓reduceIte, Int.reduceLT, Int.reduceLE, Int.reduceAdd, Int.reduceSub, Int.reduceMul, Int.reduceNeg, Int.reduceToNat, Int.reduceEq, not_true_eq_false, not_false_eq_true, Int.toNat_zero, true_or, or_true]
    by_cases hi : i + 1 < n
    · rw [if_neg (by omega)]
      rw [if_pos hi] at lV
      have en : nxP f n C i = sdP f (C (i + 1)) (-1) := by
        funext v
        unfold nxP
        rw [if_pos hi]
      obtain ⟨s1, s2, s3⟩ := h.rc (c := i + 1) (by omega) (hb (i + 1) hi)
      have A3 := (hA i (by omega)).fx f3
      have B3 := (hA (i + 1) hi).fx f3
      have c2 := clsAt_in (T := chT f (C i)) (i := svi (ful (C i).2.2.2.1)) hTo
      have c1 := clsAt_in (T := tns f (C i).1 (C i).2.1 (ful (C i).2.2.2.1)) (i := svi (ful (C i).2.2.2.1)) hTo
      refine w_markRules (T := chT f (C i)) (T' := chT f (C (i + 1))) (fr := sdP f (C i) (-1)) (to := sdP f (C (i + 1)) (-1)) (sv := svc (ful (C i).2.2.2.1) (chT f (C i))) (by omega) ⟨h3.1, h3.2.2.2.2.1, h3.2.2.2.2.2.1, A3.2.1, A3.1, B3.1, by rw [← en]; exact hM3⟩ h.2.1 h.2.2.1 (by unfold svc; split <;> omega) hTo (tns_ok s1.2.2.2.2.2.1) sF (pu_in h (by omega) (hb (i + 1) hi)) hL3 (by omega) (fun σ4 hL4 hF4 => ?_)
      simp (disch := first | omega | simp) only [u126_0, u126_1, u126_2, u126_3, u126_6, u126_9, u126_10, u126_13, u126_14, u126_17, u126_18, u126_21, u126_24, u126_25, u126_26, u126_27, u126_28, u126_31, u126_32, u126_34, u126_35, u126_38, u126_41, u126_42, u126_43, u126_46, u126_47, u126_48, u126_51, u126_52, u126_53, u126_56, u126_57, u126_58, u126_61, u126_62, u126_63, u126_67, u126_68, u126_71, u126_74, u126_77, u126_78, u126_81, o_9_0, fv_9_0_0, rf_9_0_0, fv_9_0_1, fv_9_0_2, fv_9_0_3, fv_9_0_4, fv_9_0_5, rf_9_0_5, fv_9_0_6, rf_9_0_6, fv_9_0_7, rf_9_0_7, fv_9_0_8, fv_9_0_9, fv_9_0_10, fv_9_0_11, fv_9_0_12, fv_9_0_13, fv_9_0_14, rf_9_0_14, fv_9_0_15, fv_9_0_16, fv_9_0_17, rf_9_0_17, fv_9_0_18, fv_9_0_19, fv_9_0_20, rf_9_0_20, fv_9_0_21, rf_9_0_21, fv_9_0_22, rf_9_0_22, fv_9_0_23, fv_9_0_24, fv_9_0_25, fv_9_0_26, fv_9_0_27, fv_9_0_28, fv_9_0_29, fv_9_0_30, fv_9_0_31, fv_9_0_32, rf_9_0_32, fv_9_0_33, fv_9_0_34, fv_9_0_35, fv_9_0_36, rf_9_0_36, fv_9_0_37, fv_9_0_38, fv_9_0_39, fv_9_0_40, fv_9_0_41, ia_9_1, is_9_1, ia_9_2, is_9_2, ia_9_3, is_9_3, ia_9_4, is_9_4, ia_9_5, is_9_5, ia_9_6, is_9_6, ia_9_7, is_9_7, ia_9_8, is_9_8, ia_9_9, is_9_9, ia_9_10, is_9_10, ia_9_11, is_9_11, ia_9_12, is_9_12, ia_9_13, is_9_13, ia_9_14, is_9_14, ia_9_15, is_9_15, ia_9_16, is_9_16, ia_9_17, is_9_17, ia_9_18, is_9_18, ia_9_19, is_9_19, ia_9_20, is_9_20, ia_9_21, is_9_21, ia_9_22, is_9_22, ia_9_24, is_9_24, ia_9_25, is_9_25, ia_9_26, is_9_26, ia_9_27, is_9_27, ia_9_28, is_9_28, ia_9_29, is_9_29, ia_9_30, is_9_30, ia_9_31, is_9_31, iz_9_23, Li_s, Lr_s, Ll_s, On_s, lget, lset, clr_i, clr_r, clr_n, Kc_i, Kc_v, Kc_x, true_and, and_true, List.length_cons, List.length_nil, nlg, isLn, List.all_cons, List.all_nil, Bool.and_true, Bool.not_false, Nat.zero_le, Nat.reduceAdd, Nat.reduceLeDiff, ↓reduceIte, Int.reduceLT, Int.reduceLE, Int.reduceAdd, Int.reduceSub, Int.reduceMul, Int.reduceNeg, Int.reduceToNat, Int.reduceEq, not_true_eq_false, not_false_eq_true, Int.toNat_zero, true_or, or_true]
      refine key σ4 ?_ (f3.tr (hF4.mono (fun g j k q => Or.inr (Or.inl q)))) (fun v v0 v1 => ?_)
      · unfold fVM
        rw [if_pos hi]
        exact hL4
      · rw [hF4 _ _ _ (by simp [frFR]), hF4 _ _ _ (by simp [frFR])]
        exact hM3 v v0 v1
    · rw [if_pos (by omega)]
      refine key σ3 ?_ f3 hM3
      unfold fVM
      rw [if_neg hi]
      exact hL3
end RFs
