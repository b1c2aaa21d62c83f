/-! CHORDS are read: the class's side -/
/-- the key's cells -/
def KeyIs (σ : Sg) (f mi : Int) : Prop := (∀ l : Nat, l < 7 → σ 8 2 l = kAl f l) ∧ σ 8 1 1 = led f mi
/-- the chord's tones as they are laid down -/
def ChT (σ : Sg) (c : Nat) (T : List (Int × Int)) : Prop := σ c 0 10 = (T.length : Int) ∧ (∀ i, i < T.length → σ c 7 i = (T.getD i (0, 0)).1 ∧ σ c 8 i = (T.getD i (0, 0)).2) ∧ (∀ k : Nat, k < 12 → σ c 9 k = lmp T k) ∧ σ c 0 15 = whl T
def frT (c : Nat) : Nat → Nat → Nat → Prop := fun g j k => g = c ∧ (j = 7 ∨ j = 8 ∨ j = 9 ∨ (j = 0 ∧ (k = 10 ∨ k = 15)))
section CR
variable {d : Nat} {σ : Sg} {c : Nat} {L F : Fg} {T : List (Int × Int)} {f mi l s a n : Int} {Q : Rs → Sg → Prop}
theorem r_hasBass (hc : c < 8) (hb : -1 ≤ σ c 0 9 ∧ σ c 0 9 ≤ 127) : Rn d 29 [vr c 0] σ (.inl (some (vi (if σ c 0 9 = -1 then 0 else 1)))) σ := by
  refine Rn.of ?_
  rw [e29]
  simp (disch := omega) only [u29_0, u29_1, u29_4, u29_5, u29_8, u29_9, u29_12, u29_13, o_c0, fv_c0_0, fv_c0_1, fv_c0_2, fv_c0_3, fv_c0_4, fv_c0_5, fv_c0_6, fv_c0_7, rf_c0_7, fv_c0_8, rf_c0_8, fv_c0_9, rf_c0_9, fv_c0_10, rf_c0_10, fv_c0_11, rf_c0_11, fv_c0_12, rf_c0_12, fv_c0_13, rf_c0_13, fv_c0_14, rf_c0_14, fv_c0_15, rf_c0_15, fv_c0_16, rf_c0_16, fv_c0_17, rf_c0_17, o_c1, fv_c1_0, fv_c1_1, fv_c1_2, rf_c1_2, o_c4, fv_c4_0, fv_c4_1, fv_c4_2, rf_c4_2, ia_c2, is_c2, ia_c3, is_c3, ia_c5, is_c5, ia_c6, is_c6, ia_c7, is_c7, ia_c8, is_c8, ia_c9, is_c9, ia_c10, is_c10, ia_c11, is_c11, Li_s, Lr_s, Ll_s, On_s, lget, lset, clr_i, clr_r, clr_n, Kc_i, Kc_v, Kc_x, true_and, and_true, List.length_cons, List.length_nil, nlg, isLn, List.all_cons, List.all_nil, Bool.and_true, Bool.not_false, Nat.zero_le, Nat.reduceAdd, Nat.reduceLeDiff, ↓reduceIte, Int.reduceLT, Int.reduceLE, Int.reduceAdd, Int.reduceSub, Int.reduceMul, Int.reduceNeg, Int.reduceToNat, Int.reduceEq, not_true_eq_false, not_false_eq_true, Int.toNat_zero, true_or, or_true]
  split <;> rfl
theorem r_writeBass (hc : c < 8) : Rn (d + 1) 30 [vr c 0, vi l, vi a, vi s] σ (.inl none) (up (up (up (up σ c 0 7 l) c 0 8 a) c 0 9 s) c 1 2 0) := by
  refine Rn.of ?_
  rw [e30]
  simp (disch := omega) only [u30_0, u30_1, u30_2, u30_5, u30_6, u30_7, u30_10, u30_11, u30_12, u30_15, u30_16, u30_19, u30_22, o_c0, fv_c0_0, fv_c0_1, fv_c0_2, fv_c0_3, fv_c0_4, fv_c0_5, fv_c0_6, fv_c0_7, rf_c0_7, fv_c0_8, rf_c0_8, fv_c0_9, rf_c0_9, fv_c0_10, rf_c0_10, fv_c0_11, rf_c0_11, fv_c0_12, rf_c0_12, fv_c0_13, rf_c0_13, fv_c0_14, rf_c0_14, fv_c0_15, rf_c0_15, fv_c0_16, rf_c0_16, fv_c0_17, rf_c0_17, o_c1, fv_c1_0, fv_c1_1, fv_c1_2, rf_c1_2, o_c4, fv_c4_0, fv_c4_1, fv_c4_2, rf_c4_2, ia_c2, is_c2, ia_c3, is_c3, ia_c5, is_c5, ia_c6, is_c6, ia_c7, is_c7, ia_c8, is_c8, ia_c9, is_c9, ia_c10, is_c10, ia_c11, is_c11, Li_s, Lr_s, Ll_s, On_s, lget, lset, clr_i, clr_r, clr_n, Kc_i, Kc_v, Kc_x, true_and, and_true, List.length_cons, List.length_nil, nlg, isLn, List.all_cons, List.all_nil, Bool.and_true, Bool.not_false, Nat.zero_le, Nat.reduceAdd, Nat.reduceLeDiff, ↓reduceIte, Int.reduceLT, Int.reduceLE, Int.reduceAdd, Int.reduceSub, Int.reduceMul, Int.reduceNeg, Int.reduceToNat, Int.reduceEq, not_true_eq_false, not_false_eq_true, Int.toNat_zero, true_or, or_true]
  rw [(r_clear hc (Or.inl rfl)).iff]
  simp (disch := omega) only [u30_0, u30_1, u30_2, u30_5, u30_6, u30_7, u30_10, u30_11, u30_12, u30_15, u30_16, u30_19, u30_22, o_c0, fv_c0_0, fv_c0_1, fv_c0_2, fv_c0_3, fv_c0_4, fv_c0_5, fv_c0_6, fv_c0_7, rf_c0_7, fv_c0_8, rf_c0_8, fv_c0_9, rf_c0_9, fv_c0_10, rf_c0_10, fv_c0_11, rf_c0_11, fv_c0_12, rf_c0_12, fv_c0_13, rf_c0_13, fv_c0_14, rf_c0_14, fv_c0_15, rf_c0_15, fv_c0_16, rf_c0_16, fv_c0_17, rf_c0_17, o_c1, fv_c1_0, fv_c1_1, fv_c1_2, rf_c1_2, o_c4, fv_c4_0, fv_c4_1, fv_c4_2, rf_c4_2, ia_c2, is_c2, ia_c3, is_c3, ia_c5, is_c5, ia_c6, is_c6, ia_c7, is_c7, ia_c8, is_c8, ia_c9, is_c9, ia_c10, is_c10, ia_c11, is_c11, Li_s, Lr_s, Ll_s, On_s, lget, lset, clr_i, clr_r, clr_n, Kc_i, Kc_v, Kc_x, true_and, and_true, List.length_cons, List.length_nil, nlg, isLn, List.all_cons, List.all_nil, Bool.and_true, Bool.not_false, Nat.zero_le, Nat.reduceAdd, Nat.reduceLeDiff, ↓reduceIte, Int.reduceLT, Int.reduceLE, Int.reduceAdd, Int.reduceSub, Int.reduceMul, Int.reduceNeg, Int.reduceToNat, Int.reduceEq, not_true_eq_false, not_false_eq_true, Int.toNat_zero, true_or, or_true]
theorem r_altOf (hK : KeyIs σ f mi) (hl : 0 ≤ l ∧ l ≤ 6) (hs : 0 ≤ s ∧ s ≤ 3) : Rn d 19 [vr 8 1, vi l, vi s] σ (.inl (some (vi (alt f l s)))) σ := by
  refine Rn.of ?_
  rw [e19, u19_0]
  simp only [lget, Li_s]
  rw [u19_1]
  rcases (by omega : s = 0 ∨ s = 1 ∨ s = 2 ∨ s = 3) with rfl | rfl | rfl | rfl
  · show Wx d 19 34 [some (vr 8 1), some (vi l), some (vi 0)] [] σ _
    have h1 := hK.1 l.toNat (by omega)
    rw [show ((l.toNat : Nat) : Int) = l by omega] at h1
    simp (disch := omega) only [u19_0, u19_1, u19_28, u19_29, u19_30, u19_31, u19_32, u19_33, u19_34, u19_35, u19_38, u19_39, u19_40, o_8_0, fv_8_0_0, fv_8_0_1, fv_8_0_2, fv_8_0_3, fv_8_0_4, rf_8_0_4, o_8_1, fv_8_1_0, fv_8_1_1, rf_8_1_1, o_8_4, fv_8_4_0, fv_8_4_1, fv_8_4_2, fv_8_4_3, fv_8_4_4, fv_8_4_5, fv_8_4_6, rf_8_4_6, o_8_5, fv_8_5_0, fv_8_5_1, fv_8_5_2, fv_8_5_3, fv_8_5_4, rf_8_5_4, fv_8_5_5, rf_8_5_5, o_8_15, fv_8_15_0, fv_8_15_1, fv_8_15_2, fv_8_15_3, fv_8_15_4, rf_8_15_4, o_8_16, fv_8_16_0, fv_8_16_1, fv_8_16_2, fv_8_16_3, fv_8_16_4, rf_8_16_4, fv_8_16_5, rf_8_16_5, ia_8_2, is_8_2, ia_8_6, is_8_6, ia_8_7, is_8_7, ia_8_8, is_8_8, ia_8_9, is_8_9, ia_8_14, is_8_14, ia_8_17, is_8_17, ia_8_18, is_8_18, ia_8_19, is_8_19, ia_8_20, is_8_20, ia_8_21, is_8_21, ia_8_22, is_8_22, ia_8_23, is_8_23, iz_8_12, iz_8_13, aa_3, ar_3, aa_10, ar_10, aa_11, ar_11, ia_10, is_10, ia_11, is_11, h1, Li_s, Lr_s, Ll_s, On_s, lget, lset, clr_i, clr_r, clr_n, Kc_i, Kc_v, Kc_x, true_and, and_true, List.length_cons, List.length_nil, nlg, isLn, List.all_cons, List.all_nil, Bool.and_true, Bool.not_false, Nat.zero_le, Nat.reduceAdd, Nat.reduceLeDiff, ↓reduceIte, Int.reduceLT, Int.reduceLE, Int.reduceAdd, Int.reduceSub, Int.reduceMul, Int.reduceNeg, Int.reduceToNat, Int.reduceEq, not_true_eq_false, not_false_eq_true, Int.toNat_zero, true_or, or_true]
    rfl
  · show Wx d 19 28 [some (vr 8 1), some (vi l), some (vi 1)] [] σ _
    simp (disch := omega) only [u19_0, u19_1, u19_28, u19_29, u19_30, u19_31, u19_32, u19_33, u19_34, u19_35, u19_38, u19_39, u19_40, o_8_0, fv_8_0_0, fv_8_0_1, fv_8_0_2, fv_8_0_3, fv_8_0_4, rf_8_0_4, o_8_1, fv_8_1_0, fv_8_1_1, rf_8_1_1, o_8_4, fv_8_4_0, fv_8_4_1, fv_8_4_2, fv_8_4_3, fv_8_4_4, fv_8_4_5, fv_8_4_6, rf_8_4_6, o_8_5, fv_8_5_0, fv_8_5_1, fv_8_5_2, fv_8_5_3, fv_8_5_4, rf_8_5_4, fv_8_5_5, rf_8_5_5, o_8_15, fv_8_15_0, fv_8_15_1, fv_8_15_2, fv_8_15_3, fv_8_15_4, rf_8_15_4, o_8_16, fv_8_16_0, fv_8_16_1, fv_8_16_2, fv_8_16_3, fv_8_16_4, rf_8_16_4, fv_8_16_5, rf_8_16_5, ia_8_2, is_8_2, ia_8_6, is_8_6, ia_8_7, is_8_7, ia_8_8, is_8_8, ia_8_9, is_8_9, ia_8_14, is_8_14, ia_8_17, is_8_17, ia_8_18, is_8_18, ia_8_19, is_8_19, ia_8_20, is_8_20, ia_8_21, is_8_21, ia_8_22, is_8_22, ia_8_23, is_8_23, iz_8_12, iz_8_13, aa_3, ar_3, aa_10, ar_10, aa_11, ar_11, ia_10, is_10, ia_11, is_11, Li_s, Lr_s, Ll_s, On_s, lget, lset, clr_i, clr_r, clr_n, Kc_i, Kc_v, Kc_x, true_and, and_true, List.length_cons, List.length_nil, nlg, isLn, List.all_cons, List.all_nil, Bool.and_true, Bool.not_false, Nat.zero_le, Nat.reduceAdd, Nat.reduceLeDiff, ↓reduceIte, Int.reduceLT, Int.reduceLE, Int.reduceAdd, Int.reduceSub, Int.reduceMul, Int.reduceNeg, Int.reduceToNat, Int.reduceEq, not_true_eq_false, not_false_eq_true, Int.toNat_zero, true_or, or_true]
    rfl
  · show Wx d 19 30 [some (vr 8 1), some (vi l), some (vi 2)] [] σ _
    simp (disch := omega) only [u19_0, u19_1, u19_28, u19_29, u19_30, u19_31, u19_32, u19_33, u19_34, u19_35, u19_38, u19_39, u19_40, o_8_0, fv_8_0_0, fv_8_0_1, fv_8_0_2, fv_8_0_3, fv_8_0_4, rf_8_0_4, o_8_1, fv_8_1_0, fv_8_1_1, rf_8_1_1, o_8_4, fv_8_4_0, fv_8_4_1, fv_8_4_2, fv_8_4_3, fv_8_4_4, fv_8_4_5, fv_8_4_6, rf_8_4_6, o_8_5, fv_8_5_0, fv_8_5_1, fv_8_5_2, fv_8_5_3, fv_8_5_4, rf_8_5_4, fv_8_5_5, rf_8_5_5, o_8_15, fv_8_15_0, fv_8_15_1, fv_8_15_2, fv_8_15_3, fv_8_15_4, rf_8_15_4, o_8_16, fv_8_16_0, fv_8_16_1, fv_8_16_2, fv_8_16_3, fv_8_16_4, rf_8_16_4, fv_8_16_5, rf_8_16_5, ia_8_2, is_8_2, ia_8_6, is_8_6, ia_8_7, is_8_7, ia_8_8, is_8_8, ia_8_9, is_8_9, ia_8_14, is_8_14, ia_8_17, is_8_17, ia_8_18, is_8_18, ia_8_19, is_8_19, ia_8_20, is_8_20, ia_8_21, is_8_21, ia_8_22, is_8_22, ia_8_23, is_8_23, iz_8_12, iz_8_13, aa_3, ar_3, aa_10, ar_10, aa_11, ar_11, ia_10, is_10, ia_11, is_11, Li_s, Lr_s, Ll_s, On_s, lget, lset, clr_i, clr_r, clr_n, Kc_i, Kc_v, Kc_x, true_and, and_true, List.length_cons, List.length_nil, nlg, isLn, List.all_cons, List.all_nil, Bool.and_true, Bool.not_false, Nat.zero_le, Nat.reduceAdd, Nat.reduceLeDiff, ↓reduceIte, Int.reduceLT, Int.reduceLE, Int.reduceAdd, Int.reduceSub, Int.reduceMul, Int.reduceNeg, Int.reduceToNat, Int.reduceEq, not_true_eq_false, not_false_eq_true, Int.toNat_zero, true_or, or_true]
    rfl
  · show Wx d 19 32 [some (vr 8 1), some (vi l), some (vi 3)] [] σ _
    simp (disch := omega) only [u19_0, u19_1, u19_28, u19_29, u19_30, u19_31, u19_32, u19_33, u19_34, u19_35, u19_38, u19_39, u19_40, o_8_0, fv_8_0_0, fv_8_0_1, fv_8_0_2, fv_8_0_3, fv_8_0_4, rf_8_0_4, o_8_1, fv_8_1_0, fv_8_1_1, rf_8_1_1, o_8_4, fv_8_4_0, fv_8_4_1, fv_8_4_2, fv_8_4_3, fv_8_4_4, fv_8_4_5, fv_8_4_6, rf_8_4_6, o_8_5, fv_8_5_0, fv_8_5_1, fv_8_5_2, fv_8_5_3, fv_8_5_4, rf_8_5_4, fv_8_5_5, rf_8_5_5, o_8_15, fv_8_15_0, fv_8_15_1, fv_8_15_2, fv_8_15_3, fv_8_15_4, rf_8_15_4, o_8_16, fv_8_16_0, fv_8_16_1, fv_8_16_2, fv_8_16_3, fv_8_16_4, rf_8_16_4, fv_8_16_5, rf_8_16_5, ia_8_2, is_8_2, ia_8_6, is_8_6, ia_8_7, is_8_7, ia_8_8, is_8_8, ia_8_9, is_8_9, ia_8_14, is_8_14, ia_8_17, is_8_17, ia_8_18, is_8_18, ia_8_19, is_8_19, ia_8_20, is_8_20, ia_8_21, is_8_21, ia_8_22, is_8_22, ia_8_23, is_8_23, iz_8_12, iz_8_13, aa_3, ar_3, aa_10, ar_10, aa_11, ar_11, ia_10, is_10, ia_11, is_11, Li_s, Lr_s, Ll_s, On_s, lget, lset, clr_i, clr_r, clr_n, Kc_i, Kc_v, Kc_x, true_and, and_true, List.length_cons, List.length_nil, nlg, isLn, List.all_cons, List.all_nil, Bool.and_true, Bool.not_false, Nat.zero_le, Nat.reduceAdd, Nat.reduceLeDiff, ↓reduceIte, Int.reduceLT, Int.reduceLE, Int.reduceAdd, Int.reduceSub, Int.reduceMul, Int.reduceNeg, Int.reduceToNat, Int.reduceEq, not_true_eq_false, not_false_eq_true, Int.toNat_zero, true_or, or_true]
    rfl
theorem getD_app1 {T : List (Int × Int)} {t : Int × Int} {i : Nat} (h : i < T.length) : (T ++ [t]).getD i (0, 0) = T.getD i (0, 0) := by
  simp [List.getD_eq_getElem?_getD, List.getElem?_append_left h]
theorem getD_app2 {T : List (Int × Int)} {t : Int × Int} : (T ++ [t]).getD T.length (0, 0) = t := by
  simp [List.getD_eq_getElem?_getD]
/-- addTone: one more tone -/
theorem w_addTone (hc : c < 8) (hT : ChT σ c T) (ho : TnOk T) (hn : T.length < 4) (hl : 0 ≤ l ∧ l ≤ 6) (ha : -1 ≤ a ∧ a ≤ 1) (k : ∀ σ', ChT σ' c (T ++ [(l, cls l a)]) → Fr (frT c) σ σ' → Q (.inl none) σ') : Wm (d + 1) 33 [vr c 0, vi l, vi a] σ Q := by
  have hb := bas_in l.toNat (by omega)
  have hq := cls_in l a
  obtain ⟨t1, t2, t3, t4⟩ := hT
  have h9 := t3 (cls l a).toNat (by omega)
  rw [show (((cls l a).toNat : Nat) : Int) = cls l a by omega] at h9
  have h10 := lmp_in ho (cls l a)
  have hw := whl_in T
  have key : ∀ w : Int, w = (if lmp T (cls l a) = -1 then whl T else 0) → Wx (d + 1) 33 28 [some (vr c 0), some (vi l), some (vi a), some (vi (cls l a))] [] (up σ c 0 15 w) Q := by
    intro w hw
    have e1 : ∀ z : Int, up (up σ c 0 15 w) c 9 (cls l a).toNat z c 0 10 = (T.length : Int) := fun z => by rw [up_at, if_neg (by omega), up_at, if_neg (by omega), t1]
    have e2 : ∀ z z' : Int, up (up (up σ c 0 15 w) c 9 (cls l a).toNat z) c 7 T.length z' c 0 10 = (T.length : Int) := fun z z' => by rw [up_at, if_neg (by omega), e1]
    have e3 : ∀ z z' z'' : Int, up (up (up (up σ c 0 15 w) c 9 (cls l a).toNat z) c 7 T.length z') c 8 T.length z'' c 0 10 = (T.length : Int) := fun z z' z'' => by rw [up_at, if_neg (by omega), e2]
    simp (disch := omega) only [u33_0, u33_3, u33_4, u33_5, u33_6, u33_7, u33_9, u33_12, u33_13, u33_14, u33_17, u33_18, u33_19, u33_20, u33_23, u33_24, u33_25, u33_28, u33_29, u33_32, u33_33, u33_34, u33_35, u33_36, u33_39, u33_40, u33_43, u33_44, u33_47, u33_48, u33_51, u33_52, u33_53, u33_54, u33_57, u33_58, u33_61, u33_62, u33_63, u33_64i, u33_64r, u33_65, u33_68, u33_69, u33_70, u33_73, o_c0, fv_c0_0, fv_c0_1, fv_c0_2, fv_c0_3, fv_c0_4, fv_c0_5, fv_c0_6, fv_c0_7, rf_c0_7, fv_c0_8, rf_c0_8, fv_c0_9, rf_c0_9, fv_c0_10, rf_c0_10, fv_c0_11, rf_c0_11, fv_c0_12, rf_c0_12, fv_c0_13, rf_c0_13, fv_c0_14, rf_c0_14, fv_c0_15, rf_c0_15, fv_c0_16, rf_c0_16, fv_c0_17, rf_c0_17, o_c1, fv_c1_0, fv_c1_1, fv_c1_2, rf_c1_2, o_c4, fv_c4_0, fv_c4_1, fv_c4_2, rf_c4_2, ia_c2, is_c2, ia_c3, is_c3, ia_c5, is_c5, ia_c6, is_c6, ia_c7, is_c7, ia_c8, is_c8, ia_c9, is_c9, ia_c10, is_c10, ia_c11, is_c11, e1, e2, e3, Int.toNat_natCast, Li_s, Lr_s, Ll_s, On_s, lget, lset, clr_i, clr_r, clr_n, Kc_i, Kc_v, Kc_x, true_and, and_true, List.length_cons, List.length_nil, nlg, isLn, List.all_cons, List.all_nil, Bool.and_true, Bool.not_false, Nat.zero_le, Nat.reduceAdd, Nat.reduceLeDiff, ↓reduceIte, Int.reduceLT, Int.reduceLE, Int.reduceAdd, Int.reduceSub, Int.reduceMul, Int.reduceNeg, Int.reduceToNat, Int.reduceEq, not_true_eq_false, not_false_eq_true, Int.toNat_zero, true_or, or_true]
    rw [if_neg (by omega)]
    refine k _ ⟨?_, fun i hi => ?_, fun q hq2 => ?_, ?_⟩ ?_
    · rw [up_at, if_pos ⟨rfl, rfl, rfl⟩]
      simp
    · rw [up_at, if_neg (by omega), up_at (j := 8), up_at (j := 7), up_at (j := 9), up_at (j := 0), up_at (j := 0), up_at (j := 8), up_at (j := 7), up_at (j := 9), up_at (j := 0)]
      by_cases hi2 : i < T.length
      · rw [getD_app1 hi2]
        have := t2 i hi2
        simp [show ¬ i = T.length by omega, this]
      · obtain rfl : i = T.length := by simp at hi; omega
        rw [getD_app2]
        simp
    · rw [lmp_app]
      by_cases hq3 : q = (cls l a).toNat
      · have e5 : cls l a = (q : Int) := by omega
        simp [up_at, ← hq3, e5]
      · have e5 : ¬ cls l a = (q : Int) := by omega
        simp [up_at, hq3, e5, t3 q hq2]
    · rw [whl_app]
      simp [up_at, hw]
    · exact Fr.tr (Fr.tr (Fr.tr (Fr.tr (Fr.wr (by simp [frT])) (Fr.wr (by simp [frT]))) (Fr.wr (by simp [frT]))) (Fr.wr (by simp [frT]))) (Fr.wr (by simp [frT]))
  rw [e33]
  simp (disch := omega) only [u33_0, u33_3, u33_4, u33_5, u33_6, u33_7, u33_9, u33_12, u33_13, u33_14, u33_17, u33_18, u33_19, u33_20, u33_23, u33_24, u33_25, u33_29, u33_32, u33_33, u33_34, u33_35, u33_36, u33_39, u33_40, u33_43, u33_44, u33_47, u33_48, u33_51, u33_52, u33_53, u33_54, u33_57, u33_58, u33_61, u33_62, u33_63, u33_64i, u33_64r, u33_65, u33_68, u33_69, u33_70, u33_73, o_c0, fv_c0_0, fv_c0_1, fv_c0_2, fv_c0_3, fv_c0_4, fv_c0_5, fv_c0_6, fv_c0_7, rf_c0_7, fv_c0_8, rf_c0_8, fv_c0_9, rf_c0_9, fv_c0_10, rf_c0_10, fv_c0_11, rf_c0_11, fv_c0_12, rf_c0_12, fv_c0_13, rf_c0_13, fv_c0_14, rf_c0_14, fv_c0_15, rf_c0_15, fv_c0_16, rf_c0_16, fv_c0_17, rf_c0_17, o_c1, fv_c1_0, fv_c1_1, fv_c1_2, rf_c1_2, o_c4, fv_c4_0, fv_c4_1, fv_c4_2, rf_c4_2, ia_c2, is_c2, ia_c3, is_c3, ia_c5, is_c5, ia_c6, is_c6, ia_c7, is_c7, ia_c8, is_c8, ia_c9, is_c9, ia_c10, is_c10, ia_c11, is_c11, it_0, al_0, it_1, al_1, it_2, al_2, it_3, al_3, it_4, al_4, it_5, al_5, it_6, al_6, sV_bas, Li_s, Lr_s, Ll_s, On_s, lget, lset, clr_i, clr_r, clr_n, Kc_i, Kc_v, Kc_x, true_and, and_true, List.length_cons, List.length_nil, nlg, isLn, List.all_cons, List.all_nil, Bool.and_true, Bool.not_false, Nat.zero_le, Nat.reduceAdd, Nat.reduceLeDiff, ↓reduceIte, Int.reduceLT, Int.reduceLE, Int.reduceAdd, Int.reduceSub, Int.reduceMul, Int.reduceNeg, Int.reduceToNat, Int.reduceEq, not_true_eq_false, not_false_eq_true, Int.toNat_zero, true_or, or_true]
  rw [(r_floorMod (by omega) (by omega)).iff, show (bas l.toNat + a) % 12 = cls l a from rfl]
  simp (disch := omega) only [u33_0, u33_3, u33_4, u33_5, u33_6, u33_7, u33_9, u33_12, u33_13, u33_14, u33_17, u33_18, u33_19, u33_20, u33_23, u33_24, u33_25, u33_29, u33_32, u33_33, u33_34, u33_35, u33_36, u33_39, u33_40, u33_43, u33_44, u33_47, u33_48, u33_51, u33_52, u33_53, u33_54, u33_57, u33_58, u33_61, u33_62, u33_63, u33_64i, u33_64r, u33_65, u33_68, u33_69, u33_70, u33_73, o_c0, fv_c0_0, fv_c0_1, fv_c0_2, fv_c0_3, fv_c0_4, fv_c0_5, fv_c0_6, fv_c0_7, rf_c0_7, fv_c0_8, rf_c0_8, fv_c0_9, rf_c0_9, fv_c0_10, rf_c0_10, fv_c0_11, rf_c0_11, fv_c0_12, rf_c0_12, fv_c0_13, rf_c0_13, fv_c0_14, rf_c0_14, fv_c0_15, rf_c0_15, fv_c0_16, rf_c0_16, fv_c0_17, rf_c0_17, o_c1, fv_c1_0, fv_c1_1, fv_c1_2, rf_c1_2, o_c4, fv_c4_0, fv_c4_1, fv_c4_2, rf_c4_2, ia_c2, is_c2, ia_c3, is_c3, ia_c5, is_c5, ia_c6, is_c6, ia_c7, is_c7, ia_c8, is_c8, ia_c9, is_c9, ia_c10, is_c10, ia_c11, is_c11, h9, Li_s, Lr_s, Ll_s, On_s, lget, lset, clr_i, clr_r, clr_n, Kc_i, Kc_v, Kc_x, true_and, and_true, List.length_cons, List.length_nil, nlg, isLn, List.all_cons, List.all_nil, Bool.and_true, Bool.not_false, Nat.zero_le, Nat.reduceAdd, Nat.reduceLeDiff, ↓reduceIte, Int.reduceLT, Int.reduceLE, Int.reduceAdd, Int.reduceSub, Int.reduceMul, Int.reduceNeg, Int.reduceToNat, Int.reduceEq, not_true_eq_false, not_false_eq_true, Int.toNat_zero, true_or, or_true]
  by_cases h0 : lmp T (cls l a) = -1
  · rw [if_pos h0]
    have e : up σ c 0 15 (whl T) = σ := by
      funext g j q
      rw [up_at]
      split
      · next h => obtain ⟨rfl, rfl, rfl⟩ := h; exact t4.symm
      · rfl
    have := key (whl T) (by rw [if_pos h0])
    rw [e] at this
    exact this
  · rw [if_neg h0]
    exact key 0 (by rw [if_neg h0])
theorem ChT.keep {σ' : Sg} (h : ChT σ c T) (hf : Fr (fun g j k => ¬ frT c g j k) σ σ') : ChT σ' c T := by
  obtain ⟨t1, t2, t3, t4⟩ := h
  have e : ∀ j k, frT c c j k → σ' c j k = σ c j k := fun j k q => hf c j k (fun n => n q)
  refine ⟨(e 0 10 (by simp [frT])).trans t1, fun i hi => ?_, fun k hk => (e 9 k (by simp [frT])).trans (t3 k hk), (e 0 15 (by simp [frT])).trans t4⟩
  rw [e 7 i (by simp [frT]), e 8 i (by simp [frT])]
  exact t2 i hi
theorem RowIs.at {r i : Nat} (h : RowIs σ c r F) (hi : i < F.length) : σ c (r + 1) i = (F.getD i (0, 0)).1 ∧ σ c (r + 2) i = (F.getD i (0, 0)).2 := by
  rcases F with _ | ⟨p, _ | ⟨q, _ | ⟨w, _ | ⟨x, t⟩⟩⟩⟩
  · simp at hi
  · obtain ⟨h0, h1, h2⟩ := h
    obtain rfl : i = 0 := by simp at hi; omega
    exact ⟨h1, h2⟩
  · obtain ⟨h0, h1, h2, h3, h4⟩ := h
    rcases (by simp at hi; omega : i = 0 ∨ i = 1) with rfl | rfl
    · exact ⟨h1, h2⟩
    · exact ⟨h3, h4⟩
  · obtain ⟨h0, h1, h2, h3, h4, h5, h6⟩ := h
    rcases (by simp at hi; omega : i = 0 ∨ i = 1 ∨ i = 2) with rfl | rfl | rfl
    · exact ⟨h1, h2⟩
    · exact ⟨h3, h4⟩
    · exact ⟨h5, h6⟩
  · exact h.elim
theorem FgOk.at {i : Nat} (h : FgOk F) (hi : i < F.length) : 2 ≤ (F.getD i (0, 0)).1 ∧ (F.getD i (0, 0)).1 ≤ 9 ∧ 0 ≤ (F.getD i (0, 0)).2 ∧ (F.getD i (0, 0)).2 ≤ 3 := by
  have : F.getD i (0, 0) ∈ F := by
    rw [List.getD_eq_getElem?_getD, List.getElem?_eq_getElem hi]
    exact List.getElem_mem hi
  exact h _ this
theorem take_snoc {F : Fg} {i : Nat} (hi : i < F.length) : F.take (i + 1) = F.take i ++ [F.getD i (0, 0)] := by
  rw [List.take_succ, List.getD_eq_getElem?_getD, List.getElem?_eq_getElem hi]
  rfl
/-- the loop of readTones over the full row -/
theorem l_rt {bl ba : Int} (hc : c < 8) (hK : KeyIs σ f mi) (h4 : RowIs σ c 4 F) (ho : FgOk F) (hb : 0 ≤ bl ∧ bl ≤ 6) (hbl : σ c 0 7 = bl)
    (k : ∀ σ' x y, ChT σ' c (tns f bl ba F) → Fr (frT c) σ σ' → Wx (d + 2) 32 101 [some (vr c 0), some (vr 8 1), x, y] [] σ' Q) : ∀ (n : Nat) (i : Int) (σ1 : Sg) (y : Option Va), 0 ≤ i → i + n = (F.length : Int) → ChT σ1 c (tns f bl ba (F.take i.toNat)) → Fr (frT c) σ σ1 → Wx (d + 2) 32 45 [some (vr c 0), some (vr 8 1), some (vi i), y] [] σ1 Q := by
  intro n
  induction n with
  | zero =>
    intro i σ1 y h0 h1 hT hF
    have e1 : σ1 c 4 2 = (F.length : Int) := (hF c 4 2 (by simp [frT])).trans h4.len.1
    have hl := h4.len.2
    rw [u32_45]
    simp (disch := omega) only [u32_0, u32_1, u32_2, u32_3, u32_5, u32_8, u32_9, u32_12, u32_13, u32_14, u32_15, u32_18, u32_21, u32_22, u32_23, u32_26, u32_27, u32_28, u32_31, u32_32, u32_33, u32_36, u32_37, u32_40, u32_43, u32_44, u32_46, u32_47, u32_50, u32_53, u32_56, u32_57, u32_60, u32_61, u32_64, u32_67, u32_68, u32_69, u32_70, u32_71, u32_72, u32_74, u32_75, u32_76, u32_77, u32_78, u32_79, u32_80, u32_81, u32_84, u32_87, u32_88, u32_89, u32_92, u32_95, u32_98, u32_102, u32_103, u32_106, u32_109, u32_112, u32_113, u32_116, u32_117, u32_120, u32_121, u32_122, u32_125, u32_126, u32_129, o_c0, fv_c0_0, fv_c0_1, fv_c0_2, fv_c0_3, fv_c0_4, fv_c0_5, fv_c0_6, fv_c0_7, rf_c0_7, fv_c0_8, rf_c0_8, fv_c0_9, rf_c0_9, fv_c0_10, rf_c0_10, fv_c0_11, rf_c0_11, fv_c0_12, rf_c0_12, fv_c0_13, rf_c0_13, fv_c0_14, rf_c0_14, fv_c0_15, rf_c0_15, fv_c0_16, rf_c0_16, fv_c0_17, rf_c0_17, o_c1, fv_c1_0, fv_c1_1, fv_c1_2, rf_c1_2, o_c4, fv_c4_0, fv_c4_1, fv_c4_2, rf_c4_2, ia_c2, is_c2, ia_c3, is_c3, ia_c5, is_c5, ia_c6, is_c6, ia_c7, is_c7, ia_c8, is_c8, ia_c9, is_c9, ia_c10, is_c10, ia_c11, is_c11, e1, Li_s, Lr_s, Ll_s, On_s, lget, lset, clr_i, clr_r, clr_n, Kc_i, Kc_v, Kc_x, true_and, and_true, List.length_cons, List.length_nil, nlg, isLn, List.all_cons, List.all_nil, Bool.and_true, Bool.not_false, Nat.zero_le, Nat.reduceAdd, Nat.reduceLeDiff, ↓reduceIte, Int.reduceLT, Int.reduceLE, Int.reduceAdd, Int.reduceSub, Int.reduceMul, Int.reduceNeg, Int.reduceToNat, Int.reduceEq, not_true_eq_false, not_false_eq_true, Int.toNat_zero, true_or, or_true]
    rw [if_pos (by omega)]
    rw [show i.toNat = F.length by omega, List.take_length] at hT
    exact k σ1 _ _ hT hF
  | succ n ih =>
    intro i σ1 y h0 h1 hT hF
    have hl := h4.len.2
    have hi : i.toNat < F.length := by omega
    have e1 : σ1 c 4 2 = (F.length : Int) := (hF c 4 2 (by simp [frT])).trans h4.len.1
    obtain ⟨a1, a2⟩ := h4.at hi
    have e2 : σ1 c 5 i.toNat = (F.getD i.toNat (0, 0)).1 := (hF c 5 _ (by simp [frT])).trans a1
    have e3 : σ1 c 6 i.toNat = (F.getD i.toNat (0, 0)).2 := (hF c 6 _ (by simp [frT])).trans a2
    have e4 : σ1 c 0 7 = bl := (hF c 0 7 (by simp [frT])).trans hbl
    have o := ho.at hi
    generalize hp : F.getD i.toNat (0, 0) = p at e2 e3 o
    have e5 : Int.tmod (bl + p.1 - 1) 7 = (bl + p.1 - 1) % 7 := Int.tmod_eq_emod_of_nonneg (by omega)
    have hK1 : KeyIs σ1 f mi := ⟨fun l hl => (hF 8 2 l (by simp only [frT]; omega)).trans (hK.1 l hl), (hF 8 1 1 (by simp only [frT]; omega)).trans hK.2⟩
    have hlen : (tns f bl ba (F.take i.toNat)).length = i.toNat + 1 := by
      simp [tns]
      omega
    rw [u32_45]
    simp (disch := omega) only [u32_0, u32_1, u32_2, u32_3, u32_5, u32_8, u32_9, u32_12, u32_13, u32_14, u32_15, u32_18, u32_21, u32_22, u32_23, u32_26, u32_27, u32_28, u32_31, u32_32, u32_33, u32_36, u32_37, u32_40, u32_43, u32_44, u32_46, u32_47, u32_50, u32_53, u32_56, u32_57, u32_60, u32_61, u32_64, u32_67, u32_68, u32_69, u32_70, u32_71, u32_72, u32_74, u32_75, u32_76, u32_77, u32_78, u32_79, u32_80, u32_81, u32_84, u32_87, u32_88, u32_89, u32_92, u32_95, u32_98, u32_102, u32_103, u32_106, u32_109, u32_112, u32_113, u32_116, u32_117, u32_120, u32_121, u32_122, u32_125, u32_126, u32_129, o_c0, fv_c0_0, fv_c0_1, fv_c0_2, fv_c0_3, fv_c0_4, fv_c0_5, fv_c0_6, fv_c0_7, rf_c0_7, fv_c0_8, rf_c0_8, fv_c0_9, rf_c0_9, fv_c0_10, rf_c0_10, fv_c0_11, rf_c0_11, fv_c0_12, rf_c0_12, fv_c0_13, rf_c0_13, fv_c0_14, rf_c0_14, fv_c0_15, rf_c0_15, fv_c0_16, rf_c0_16, fv_c0_17, rf_c0_17, o_c1, fv_c1_0, fv_c1_1, fv_c1_2, rf_c1_2, o_c4, fv_c4_0, fv_c4_1, fv_c4_2, rf_c4_2, ia_c2, is_c2, ia_c3, is_c3, ia_c5, is_c5, ia_c6, is_c6, ia_c7, is_c7, ia_c8, is_c8, ia_c9, is_c9, ia_c10, is_c10, ia_c11, is_c11, o_8_0, fv_8_0_0, fv_8_0_1, fv_8_0_2, fv_8_0_3, fv_8_0_4, rf_8_0_4, o_8_1, fv_8_1_0, fv_8_1_1, rf_8_1_1, o_8_4, fv_8_4_0, fv_8_4_1, fv_8_4_2, fv_8_4_3, fv_8_4_4, fv_8_4_5, fv_8_4_6, rf_8_4_6, o_8_5, fv_8_5_0, fv_8_5_1, fv_8_5_2, fv_8_5_3, fv_8_5_4, rf_8_5_4, fv_8_5_5, rf_8_5_5, o_8_15, fv_8_15_0, fv_8_15_1, fv_8_15_2, fv_8_15_3, fv_8_15_4, rf_8_15_4, o_8_16, fv_8_16_0, fv_8_16_1, fv_8_16_2, fv_8_16_3, fv_8_16_4, rf_8_16_4, fv_8_16_5, rf_8_16_5, ia_8_2, is_8_2, ia_8_6, is_8_6, ia_8_7, is_8_7, ia_8_8, is_8_8, ia_8_9, is_8_9, ia_8_14, is_8_14, ia_8_17, is_8_17, ia_8_18, is_8_18, ia_8_19, is_8_19, ia_8_20, is_8_20, ia_8_21, is_8_21, ia_8_22, is_8_22, ia_8_23, is_8_23, iz_8_12, iz_8_13, aa_3, ar_3, aa_10, ar_10, aa_11, ar_11, ia_10, is_10, ia_11, is_11, e1, e2, e3, e4, e5, Li_s, Lr_s, Ll_s, On_s, lget, lset, clr_i, clr_r, clr_n, Kc_i, Kc_v, Kc_x, true_and, and_true, List.length_cons, List.length_nil, nlg, isLn, List.all_cons, List.all_nil, Bool.and_true, Bool.not_false, Nat.zero_le, Nat.reduceAdd, Nat.reduceLeDiff, ↓reduceIte, Int.reduceLT, Int.reduceLE, Int.reduceAdd, Int.reduceSub, Int.reduceMul, Int.reduceNeg, Int.reduceToNat, Int.reduceEq, not_true_eq_false, not_false_eq_true, Int.toNat_zero, true_or, or_true]
    rw [if_neg (by omega), (r_altOf hK1 (by omega) (by omega)).iff]
    simp (disch := omega) only [u32_0, u32_1, u32_2, u32_3, u32_5, u32_8, u32_9, u32_12, u32_13, u32_14, u32_15, u32_18, u32_21, u32_22, u32_23, u32_26, u32_27, u32_28, u32_31, u32_32, u32_33, u32_36, u32_37, u32_40, u32_43, u32_44, u32_46, u32_47, u32_50, u32_53, u32_56, u32_57, u32_60, u32_61, u32_64, u32_67, u32_68, u32_69, u32_70, u32_71, u32_72, u32_74, u32_75, u32_76, u32_77, u32_78, u32_79, u32_80, u32_81, u32_84, u32_87, u32_88, u32_89, u32_92, u32_95, u32_98, u32_102, u32_103, u32_106, u32_109, u32_112, u32_113, u32_116, u32_117, u32_120, u32_121, u32_122, u32_125, u32_126, u32_129, o_c0, fv_c0_0, fv_c0_1, fv_c0_2, fv_c0_3, fv_c0_4, fv_c0_5, fv_c0_6, fv_c0_7, rf_c0_7, fv_c0_8, rf_c0_8, fv_c0_9, rf_c0_9, fv_c0_10, rf_c0_10, fv_c0_11, rf_c0_11, fv_c0_12, rf_c0_12, fv_c0_13, rf_c0_13, fv_c0_14, rf_c0_14, fv_c0_15, rf_c0_15, fv_c0_16, rf_c0_16, fv_c0_17, rf_c0_17, o_c1, fv_c1_0, fv_c1_1, fv_c1_2, rf_c1_2, o_c4, fv_c4_0, fv_c4_1, fv_c4_2, rf_c4_2, ia_c2, is_c2, ia_c3, is_c3, ia_c5, is_c5, ia_c6, is_c6, ia_c7, is_c7, ia_c8, is_c8, ia_c9, is_c9, ia_c10, is_c10, ia_c11, is_c11, o_8_0, fv_8_0_0, fv_8_0_1, fv_8_0_2, fv_8_0_3, fv_8_0_4, rf_8_0_4, o_8_1, fv_8_1_0, fv_8_1_1, rf_8_1_1, o_8_4, fv_8_4_0, fv_8_4_1, fv_8_4_2, fv_8_4_3, fv_8_4_4, fv_8_4_5, fv_8_4_6, rf_8_4_6, o_8_5, fv_8_5_0, fv_8_5_1, fv_8_5_2, fv_8_5_3, fv_8_5_4, rf_8_5_4, fv_8_5_5, rf_8_5_5, o_8_15, fv_8_15_0, fv_8_15_1, fv_8_15_2, fv_8_15_3, fv_8_15_4, rf_8_15_4, o_8_16, fv_8_16_0, fv_8_16_1, fv_8_16_2, fv_8_16_3, fv_8_16_4, rf_8_16_4, fv_8_16_5, rf_8_16_5, ia_8_2, is_8_2, ia_8_6, is_8_6, ia_8_7, is_8_7, ia_8_8, is_8_8, ia_8_9, is_8_9, ia_8_14, is_8_14, ia_8_17, is_8_17, ia_8_18, is_8_18, ia_8_19, is_8_19, ia_8_20, is_8_20, ia_8_21, is_8_21, ia_8_22, is_8_22, ia_8_23, is_8_23, iz_8_12, iz_8_13, aa_3, ar_3, aa_10, ar_10, aa_11, ar_11, ia_10, is_10, ia_11, is_11, Li_s, Lr_s, Ll_s, On_s, lget, lset, clr_i, clr_r, clr_n, Kc_i, Kc_v, Kc_x, true_and, and_true, List.length_cons, List.length_nil, nlg, isLn, List.all_cons, List.all_nil, Bool.and_true, Bool.not_false, Nat.zero_le, Nat.reduceAdd, Nat.reduceLeDiff, ↓reduceIte, Int.reduceLT, Int.reduceLE, Int.reduceAdd, Int.reduceSub, Int.reduceMul, Int.reduceNeg, Int.reduceToNat, Int.reduceEq, not_true_eq_false, not_false_eq_true, Int.toNat_zero, true_or, or_true]
    refine w_addTone hc hT (tns_ok hb) (by omega) (by omega) (alt_in _ _ _) (fun σ2 hT2 hF2 => ?_)
    simp (disch := omega) only [u32_0, u32_1, u32_2, u32_3, u32_5, u32_8, u32_9, u32_12, u32_13, u32_14, u32_15, u32_18, u32_21, u32_22, u32_23, u32_26, u32_27, u32_28, u32_31, u32_32, u32_33, u32_36, u32_37, u32_40, u32_43, u32_44, u32_46, u32_47, u32_50, u32_53, u32_56, u32_57, u32_60, u32_61, u32_64, u32_67, u32_68, u32_69, u32_70, u32_71, u32_72, u32_74, u32_75, u32_76, u32_77, u32_78, u32_79, u32_80, u32_81, u32_84, u32_87, u32_88, u32_89, u32_92, u32_95, u32_98, u32_102, u32_103, u32_106, u32_109, u32_112, u32_113, u32_116, u32_117, u32_120, u32_121, u32_122, u32_125, u32_126, u32_129, o_c0, fv_c0_0, fv_c0_1, fv_c0_2, fv_c0_3, fv_c0_4, fv_c0_5, fv_c0_6, fv_c0_7, rf_c0_7, fv_c0_8, rf_c0_8, fv_c0_9, rf_c0_9, fv_c0_10, rf_c0_10, fv_c0_11, rf_c0_11, fv_c0_12, rf_c0_12, fv_c0_13, rf_c0_13, fv_c0_14, rf_c0_14, fv_c0_15, rf_c0_15, fv_c0_16, rf_c0_16, fv_c0_17, rf_c0_17, o_c1, fv_c1_0, fv_c1_1, fv_c1_2, rf_c1_2, o_c4, fv_c4_0, fv_c4_1, fv_c4_2, rf_c4_2, ia_c2, is_c2, ia_c3, is_c3, ia_c5, is_c5, ia_c6, is_c6, ia_c7, is_c7, ia_c8, is_c8, ia_c9, is_c9, ia_c10, is_c10, ia_c11, is_c11, Li_s, Lr_s, Ll_s, On_s, lget, lset, clr_i, clr_r, clr_n, Kc_i, Kc_v, Kc_x, true_and, and_true, List.length_cons, List.length_nil, nlg, isLn, List.all_cons, List.all_nil, Bool.and_true, Bool.not_false, Nat.zero_le, Nat.reduceAdd, Nat.reduceLeDiff, ↓reduceIte, Int.reduceLT, Int.reduceLE, Int.reduceAdd, Int.reduceSub, Int.reduceMul, Int.reduceNeg, Int.reduceToNat, Int.reduceEq, not_true_eq_false, not_false_eq_true, Int.toNat_zero, true_or, or_true]
    refine ih (i + 1) σ2 _ (by omega) (by omega) ?_ (hF.tr hF2)
    rw [show (i + 1).toNat = i.toNat + 1 by omega, take_snoc hi, hp]
    have e6 : tns f bl ba (F.take i.toNat ++ [p]) = tns f bl ba (F.take i.toNat) ++ [tnF f bl p] := by
      simp [tns]
    rw [e6]
    exact hT2
theorem l_rt0 (hc : c < 8) (k : ∀ v x, (∀ i, i < 12 → v i = -1) → Wx d 32 21 [some (vr c 0), some (vr 8 1), x, none] [] (row σ c 9 v) Q) : ∀ (n : Nat) (i : Int) (v : Nat → Int), 0 ≤ i → i + n = 12 → (∀ q : Nat, (q : Int) < i → v q = -1) → Wx d 32 2 [some (vr c 0), some (vr 8 1), some (vi i), none] [] (row σ c 9 v) Q := by
  intro n
  induction n with
  | zero =>
    intro i v h0 h1 hv
    rw [u32_2]
    simp (disch := omega) only [u32_0, u32_1, u32_3, u32_5, u32_8, u32_9, u32_12, u32_13, u32_14, u32_15, u32_18, u32_22, u32_23, u32_26, u32_27, u32_28, u32_31, u32_32, u32_33, u32_36, u32_37, u32_40, u32_43, u32_44, u32_45, u32_46, u32_47, u32_50, u32_53, u32_56, u32_57, u32_60, u32_61, u32_64, u32_67, u32_68, u32_69, u32_70, u32_71, u32_72, u32_74, u32_75, u32_76, u32_77, u32_78, u32_79, u32_80, u32_81, u32_84, u32_87, u32_88, u32_89, u32_92, u32_95, u32_98, u32_101, u32_102, u32_103, u32_106, u32_109, u32_112, u32_113, u32_116, u32_117, u32_120, u32_121, u32_122, u32_125, u32_126, u32_129, o_c0, fv_c0_0, fv_c0_1, fv_c0_2, fv_c0_3, fv_c0_4, fv_c0_5, fv_c0_6, fv_c0_7, rf_c0_7, fv_c0_8, rf_c0_8, fv_c0_9, rf_c0_9, fv_c0_10, rf_c0_10, fv_c0_11, rf_c0_11, fv_c0_12, rf_c0_12, fv_c0_13, rf_c0_13, fv_c0_14, rf_c0_14, fv_c0_15, rf_c0_15, fv_c0_16, rf_c0_16, fv_c0_17, rf_c0_17, o_c1, fv_c1_0, fv_c1_1, fv_c1_2, rf_c1_2, o_c4, fv_c4_0, fv_c4_1, fv_c4_2, rf_c4_2, ia_c2, is_c2, ia_c3, is_c3, ia_c5, is_c5, ia_c6, is_c6, ia_c7, is_c7, ia_c8, is_c8, ia_c9, is_c9, ia_c10, is_c10, ia_c11, is_c11, Li_s, Lr_s, Ll_s, On_s, lget, lset, clr_i, clr_r, clr_n, Kc_i, Kc_v, Kc_x, true_and, and_true, List.length_cons, List.length_nil, nlg, isLn, List.all_cons, List.all_nil, Bool.and_true, Bool.not_false, Nat.zero_le, Nat.reduceAdd, Nat.reduceLeDiff, ↓reduceIte, Int.reduceLT, Int.reduceLE, Int.reduceAdd, Int.reduceSub, Int.reduceMul, Int.reduceNeg, Int.reduceToNat, Int.reduceEq, not_true_eq_false, not_false_eq_true, Int.toNat_zero, true_or, or_true]
    rw [if_pos (by omega)]
    exact k v _ (fun q hq => hv q (by omega))
  | succ n ih =>
    intro i v h0 h1 hv
    rw [u32_2]
    simp (disch := omega) only [u32_0, u32_1, u32_3, u32_5, u32_8, u32_9, u32_12, u32_13, u32_14, u32_15, u32_18, u32_22, u32_23, u32_26, u32_27, u32_28, u32_31, u32_32, u32_33, u32_36, u32_37, u32_40, u32_43, u32_44, u32_45, u32_46, u32_47, u32_50, u32_53, u32_56, u32_57, u32_60, u32_61, u32_64, u32_67, u32_68, u32_69, u32_70, u32_71, u32_72, u32_74, u32_75, u32_76, u32_77, u32_78, u32_79, u32_80, u32_81, u32_84, u32_87, u32_88, u32_89, u32_92, u32_95, u32_98, u32_101, u32_102, u32_103, u32_106, u32_109, u32_112, u32_113, u32_116, u32_117, u32_120, u32_121, u32_122, u32_125, u32_126, u32_129, o_c0, fv_c0_0, fv_c0_1, fv_c0_2, fv_c0_3, fv_c0_4, fv_c0_5, fv_c0_6, fv_c0_7, rf_c0_7, fv_c0_8, rf_c0_8, fv_c0_9, rf_c0_9, fv_c0_10, rf_c0_10, fv_c0_11, rf_c0_11, fv_c0_12, rf_c0_12, fv_c0_13, rf_c0_13, fv_c0_14, rf_c0_14, fv_c0_15, rf_c0_15, fv_c0_16, rf_c0_16, fv_c0_17, rf_c0_17, o_c1, fv_c1_0, fv_c1_1, fv_c1_2, rf_c1_2, o_c4, fv_c4_0, fv_c4_1, fv_c4_2, rf_c4_2, ia_c2, is_c2, ia_c3, is_c3, ia_c5, is_c5, ia_c6, is_c6, ia_c7, is_c7, ia_c8, is_c8, ia_c9, is_c9, ia_c10, is_c10, ia_c11, is_c11, Li_s, Lr_s, Ll_s, On_s, lget, lset, clr_i, clr_r, clr_n, Kc_i, Kc_v, Kc_x, true_and, and_true, List.length_cons, List.length_nil, nlg, isLn, List.all_cons, List.all_nil, Bool.and_true, Bool.not_false, Nat.zero_le, Nat.reduceAdd, Nat.reduceLeDiff, ↓reduceIte, Int.reduceLT, Int.reduceLE, Int.reduceAdd, Int.reduceSub, Int.reduceMul, Int.reduceNeg, Int.reduceToNat, Int.reduceEq, not_true_eq_false, not_false_eq_true, Int.toNat_zero, true_or, or_true]
    rw [if_neg (by omega), row_up]
    refine ih (i + 1) _ (by omega) (by omega) (fun q hq => ?_)
    by_cases e : q = i.toNat
    · rw [e, vup_s]
    · rw [vup_o e]
      exact hv q (by omega)
def frO (c : Nat) : Nat → Nat → Nat → Prop := fun g j k => frT c g j k ∨ (g = c ∧ j = 0 ∧ k = 11)
/-- readTones -/
theorem w_readTones {bl ba : Int} (hc : c < 8) (hK : KeyIs σ f mi) (h1 : RowIs σ c 1 L) (ho : FgOk L) (h4 : RowIs σ c 4 (ful L)) (hb : 0 ≤ bl ∧ bl ≤ 6) (ha : -1 ≤ ba ∧ ba ≤ 1) (hbl : σ c 0 7 = bl) (hba : σ c 0 8 = ba)
    (k : ∀ σ', ChT σ' c (tns f bl ba (ful L)) → σ' c 0 11 = opt L → Fr (frO c) σ σ' → Q (.inl none) σ') : Wm (d + 2) 32 [vr c 0, vr 8 1] σ Q := by
  have hF := ful_ok h1 ho
  rw [e32, u32_0, u32_1]
  simp only [lset, clr_i, clr_r, clr_n]
  rw [← row_self (σ := σ) (g := c) (j := 9)]
  refine l_rt0 hc (fun v x hv => ?_) 12 0 _ (by omega) (by omega) (fun q hq => by omega)
  have b1 : ∀ z z' : Int, up (up (row σ c 9 v) c 0 15 z) c 0 10 z' c 0 7 = bl := fun z z' => by simp [up_at, row, hbl]
  have b2 : ∀ z z' : Int, up (up (row σ c 9 v) c 0 15 z) c 0 10 z' c 0 8 = ba := fun z z' => by simp [up_at, row, hba]
  have f0 : Fr (frT c) σ (up (up (row σ c 9 v) c 0 15 1) c 0 10 0) := by
    intro g j k hn
    simp only [up_at, row]
    rw [if_neg, if_neg, if_neg]
    · rintro ⟨rfl, rfl⟩
      exact hn (by simp [frT])
    · rintro ⟨rfl, rfl, rfl⟩
      exact hn (by simp [frT])
    · rintro ⟨rfl, rfl, rfl⟩
      exact hn (by simp [frT])
  have g0 : ChT (up (up (row σ c 9 v) c 0 15 1) c 0 10 0) c [] := by
    refine ⟨by simp [up_at], fun i hi => by simp at hi, fun q hq => ?_, by simp [up_at, whl, whF]⟩
    simp [up_at, row, hv q hq, lmp, lmF]
  simp (disch := omega) only [u32_0, u32_1, u32_3, u32_5, u32_8, u32_9, u32_12, u32_13, u32_14, u32_15, u32_18, u32_21, u32_22, u32_23, u32_26, u32_27, u32_28, u32_31, u32_32, u32_33, u32_36, u32_37, u32_40, u32_43, u32_44, u32_46, u32_47, u32_50, u32_53, u32_56, u32_57, u32_60, u32_61, u32_64, u32_67, u32_68, u32_69, u32_70, u32_71, u32_72, u32_74, u32_75, u32_76, u32_77, u32_78, u32_79, u32_80, u32_81, u32_84, u32_87, u32_88, u32_89, u32_92, u32_95, u32_98, u32_102, u32_103, u32_106, u32_109, u32_112, u32_113, u32_116, u32_117, u32_120, u32_121, u32_122, u32_125, u32_126, u32_129, o_c0, fv_c0_0, fv_c0_1, fv_c0_2, fv_c0_3, fv_c0_4, fv_c0_5, fv_c0_6, fv_c0_7, rf_c0_7, fv_c0_8, rf_c0_8, fv_c0_9, rf_c0_9, fv_c0_10, rf_c0_10, fv_c0_11, rf_c0_11, fv_c0_12, rf_c0_12, fv_c0_13, rf_c0_13, fv_c0_14, rf_c0_14, fv_c0_15, rf_c0_15, fv_c0_16, rf_c0_16, fv_c0_17, rf_c0_17, o_c1, fv_c1_0, fv_c1_1, fv_c1_2, rf_c1_2, o_c4, fv_c4_0, fv_c4_1, fv_c4_2, rf_c4_2, ia_c2, is_c2, ia_c3, is_c3, ia_c5, is_c5, ia_c6, is_c6, ia_c7, is_c7, ia_c8, is_c8, ia_c9, is_c9, ia_c10, is_c10, ia_c11, is_c11, b1, b2, Li_s, Lr_s, Ll_s, On_s, lget, lset, clr_i, clr_r, clr_n, Kc_i, Kc_v, Kc_x, true_and, and_true, List.length_cons, List.length_nil, nlg, isLn, List.all_cons, List.all_nil, Bool.and_true, Bool.not_false, Nat.zero_le, Nat.reduceAdd, Nat.reduceLeDiff, ↓reduceIte, Int.reduceLT, Int.reduceLE, Int.reduceAdd, Int.reduceSub, Int.reduceMul, Int.reduceNeg, Int.reduceToNat, Int.reduceEq, not_true_eq_false, not_false_eq_true, Int.toNat_zero, true_or, or_true]
  refine w_addTone hc g0 (fun t ht => by cases ht) (by simp) hb ha (fun σ2 hT2 hF2 => ?_)
  simp (disch := omega) only [u32_0, u32_1, u32_3, u32_5, u32_8, u32_9, u32_12, u32_13, u32_14, u32_15, u32_18, u32_21, u32_22, u32_23, u32_26, u32_27, u32_28, u32_31, u32_32, u32_33, u32_36, u32_37, u32_40, u32_43, u32_44, u32_46, u32_47, u32_50, u32_53, u32_56, u32_57, u32_60, u32_61, u32_64, u32_67, u32_68, u32_69, u32_70, u32_71, u32_72, u32_74, u32_75, u32_76, u32_77, u32_78, u32_79, u32_80, u32_81, u32_84, u32_87, u32_88, u32_89, u32_92, u32_95, u32_98, u32_102, u32_103, u32_106, u32_109, u32_112, u32_113, u32_116, u32_117, u32_120, u32_121, u32_122, u32_125, u32_126, u32_129, o_c0, fv_c0_0, fv_c0_1, fv_c0_2, fv_c0_3, fv_c0_4, fv_c0_5, fv_c0_6, fv_c0_7, rf_c0_7, fv_c0_8, rf_c0_8, fv_c0_9, rf_c0_9, fv_c0_10, rf_c0_10, fv_c0_11, rf_c0_11, fv_c0_12, rf_c0_12, fv_c0_13, rf_c0_13, fv_c0_14, rf_c0_14, fv_c0_15, rf_c0_15, fv_c0_16, rf_c0_16, fv_c0_17, rf_c0_17, o_c1, fv_c1_0, fv_c1_1, fv_c1_2, rf_c1_2, o_c4, fv_c4_0, fv_c4_1, fv_c4_2, rf_c4_2, ia_c2, is_c2, ia_c3, is_c3, ia_c5, is_c5, ia_c6, is_c6, ia_c7, is_c7, ia_c8, is_c8, ia_c9, is_c9, ia_c10, is_c10, ia_c11, is_c11, Li_s, Lr_s, Ll_s, On_s, lget, lset, clr_i, clr_r, clr_n, Kc_i, Kc_v, Kc_x, true_and, and_true, List.length_cons, List.length_nil, nlg, isLn, List.all_cons, List.all_nil, Bool.and_true, Bool.not_false, Nat.zero_le, Nat.reduceAdd, Nat.reduceLeDiff, ↓reduceIte, Int.reduceLT, Int.reduceLE, Int.reduceAdd, Int.reduceSub, Int.reduceMul, Int.reduceNeg, Int.reduceToNat, Int.reduceEq, not_true_eq_false, not_false_eq_true, Int.toNat_zero, true_or, or_true]
  refine l_rt (ba := ba) hc (σ := σ2) (F := ful L) (f := f) (mi := mi) (bl := bl) ?_ ?_ hF.1 hb ?_ (fun σ3 x y hT3 hF3 => ?_) (ful L).length 0 σ2 none (by omega) (by omega) hT2 Fr.rf
  · exact ⟨fun l hl => ((f0.tr hF2) 8 2 l (by simp only [frT]; omega)).trans (hK.1 l hl), ((f0.tr hF2) 8 1 1 (by simp only [frT]; omega)).trans hK.2⟩
  · exact h4.fr ⟨(f0.tr hF2) _ _ _ (by simp [frT]), fun k => (f0.tr hF2) _ _ _ (by simp [frT]), fun k => (f0.tr hF2) _ _ _ (by simp [frT])⟩
  · exact ((f0.tr hF2) c 0 7 (by simp [frT])).trans hbl
  · have fr : Fr (frT c) σ σ3 := (f0.tr hF2).tr hF3
    have r1 : RowIs σ3 c 1 L := h1.fr ⟨fr _ _ _ (by simp [frT]), fun k => fr _ _ _ (by simp [frT]), fun k => fr _ _ _ (by simp [frT])⟩
    have r4 : RowIs σ3 c 4 (ful L) := h4.fr ⟨fr _ _ _ (by simp [frT]), fun k => fr _ _ _ (by simp [frT]), fun k => fr _ _ _ (by simp [frT])⟩
    have hx := idx_in (n := 5) r4
    have key : ∀ z : Int, z = opt L → Wx (d + 2) 32 126 [some (vr c 0), some (vr 8 1), x, y] [vi z, vr c 0] σ3 Q := by
      rintro z rfl
      simp (disch := omega) only [u32_0, u32_1, u32_3, u32_5, u32_8, u32_9, u32_12, u32_13, u32_14, u32_15, u32_18, u32_21, u32_22, u32_23, u32_26, u32_27, u32_28, u32_31, u32_32, u32_33, u32_36, u32_37, u32_40, u32_43, u32_44, u32_46, u32_47, u32_50, u32_53, u32_56, u32_57, u32_60, u32_61, u32_64, u32_67, u32_68, u32_69, u32_70, u32_71, u32_72, u32_74, u32_75, u32_76, u32_77, u32_78, u32_79, u32_80, u32_81, u32_84, u32_87, u32_88, u32_89, u32_92, u32_95, u32_98, u32_102, u32_103, u32_106, u32_109, u32_112, u32_113, u32_116, u32_117, u32_120, u32_121, u32_122, u32_125, u32_126, u32_129, o_c0, fv_c0_0, fv_c0_1, fv_c0_2, fv_c0_3, fv_c0_4, fv_c0_5, fv_c0_6, fv_c0_7, rf_c0_7, fv_c0_8, rf_c0_8, fv_c0_9, rf_c0_9, fv_c0_10, rf_c0_10, fv_c0_11, rf_c0_11, fv_c0_12, rf_c0_12, fv_c0_13, rf_c0_13, fv_c0_14, rf_c0_14, fv_c0_15, rf_c0_15, fv_c0_16, rf_c0_16, fv_c0_17, rf_c0_17, o_c1, fv_c1_0, fv_c1_1, fv_c1_2, rf_c1_2, o_c4, fv_c4_0, fv_c4_1, fv_c4_2, rf_c4_2, ia_c2, is_c2, ia_c3, is_c3, ia_c5, is_c5, ia_c6, is_c6, ia_c7, is_c7, ia_c8, is_c8, ia_c9, is_c9, ia_c10, is_c10, ia_c11, is_c11, Li_s, Lr_s, Ll_s, On_s, lget, lset, clr_i, clr_r, clr_n, Kc_i, Kc_v, Kc_x, true_and, and_true, List.length_cons, List.length_nil, nlg, isLn, List.all_cons, List.all_nil, Bool.and_true, Bool.not_false, Nat.zero_le, Nat.reduceAdd, Nat.reduceLeDiff, ↓reduceIte, Int.reduceLT, Int.reduceLE, Int.reduceAdd, Int.reduceSub, Int.reduceMul, Int.reduceNeg, Int.reduceToNat, Int.reduceEq, not_true_eq_false, not_false_eq_true, Int.toNat_zero, true_or, or_true]
      refine k _ (hT3.keep (fun g j q hn => ?_)) (by simp [up_at]) (Fr.tr (fr.mono (fun g j q h => Or.inl h)) (Fr.wr (Or.inr ⟨rfl, rfl, rfl⟩)))
      rw [up_at, if_neg]
      rintro ⟨rfl, rfl, rfl⟩
      exact hn (by simp [frT])
    simp (disch := omega) only [u32_0, u32_1, u32_3, u32_5, u32_8, u32_9, u32_12, u32_13, u32_14, u32_15, u32_18, u32_21, u32_22, u32_23, u32_26, u32_27, u32_28, u32_31, u32_32, u32_33, u32_36, u32_37, u32_40, u32_43, u32_44, u32_46, u32_47, u32_50, u32_53, u32_56, u32_57, u32_60, u32_61, u32_64, u32_67, u32_68, u32_69, u32_70, u32_71, u32_72, u32_74, u32_75, u32_76, u32_77, u32_78, u32_79, u32_80, u32_81, u32_84, u32_87, u32_88, u32_89, u32_92, u32_95, u32_98, u32_101, u32_102, u32_103, u32_106, u32_109, u32_112, u32_113, u32_116, u32_117, u32_120, u32_121, u32_122, u32_125, u32_129, o_c0, fv_c0_0, fv_c0_1, fv_c0_2, fv_c0_3, fv_c0_4, fv_c0_5, fv_c0_6, fv_c0_7, rf_c0_7, fv_c0_8, rf_c0_8, fv_c0_9, rf_c0_9, fv_c0_10, rf_c0_10, fv_c0_11, rf_c0_11, fv_c0_12, rf_c0_12, fv_c0_13, rf_c0_13, fv_c0_14, rf_c0_14, fv_c0_15, rf_c0_15, fv_c0_16, rf_c0_16, fv_c0_17, rf_c0_17, o_c1, fv_c1_0, fv_c1_1, fv_c1_2, rf_c1_2, o_c4, fv_c4_0, fv_c4_1, fv_c4_2, rf_c4_2, ia_c2, is_c2, ia_c3, is_c3, ia_c5, is_c5, ia_c6, is_c6, ia_c7, is_c7, ia_c8, is_c8, ia_c9, is_c9, ia_c10, is_c10, ia_c11, is_c11, Li_s, Lr_s, Ll_s, On_s, lget, lset, clr_i, clr_r, clr_n, Kc_i, Kc_v, Kc_x, true_and, and_true, List.length_cons, List.length_nil, nlg, isLn, List.all_cons, List.all_nil, Bool.and_true, Bool.not_false, Nat.zero_le, Nat.reduceAdd, Nat.reduceLeDiff, ↓reduceIte, Int.reduceLT, Int.reduceLE, Int.reduceAdd, Int.reduceSub, Int.reduceMul, Int.reduceNeg, Int.reduceToNat, Int.reduceEq, not_true_eq_false, not_false_eq_true, Int.toNat_zero, true_or, or_true]
    rw [(r_optFifth hc r1 ho).iff]
    simp (disch := omega) only [u32_0, u32_1, u32_3, u32_5, u32_8, u32_9, u32_12, u32_13, u32_14, u32_15, u32_18, u32_21, u32_22, u32_23, u32_26, u32_27, u32_28, u32_31, u32_32, u32_33, u32_36, u32_37, u32_40, u32_43, u32_44, u32_46, u32_47, u32_50, u32_53, u32_56, u32_57, u32_60, u32_61, u32_64, u32_67, u32_68, u32_69, u32_70, u32_71, u32_72, u32_74, u32_75, u32_76, u32_77, u32_78, u32_79, u32_80, u32_81, u32_84, u32_87, u32_88, u32_89, u32_92, u32_95, u32_98, u32_101, u32_102, u32_103, u32_106, u32_109, u32_112, u32_113, u32_116, u32_117, u32_120, u32_121, u32_122, u32_125, u32_129, o_c0, fv_c0_0, fv_c0_1, fv_c0_2, fv_c0_3, fv_c0_4, fv_c0_5, fv_c0_6, fv_c0_7, rf_c0_7, fv_c0_8, rf_c0_8, fv_c0_9, rf_c0_9, fv_c0_10, rf_c0_10, fv_c0_11, rf_c0_11, fv_c0_12, rf_c0_12, fv_c0_13, rf_c0_13, fv_c0_14, rf_c0_14, fv_c0_15, rf_c0_15, fv_c0_16, rf_c0_16, fv_c0_17, rf_c0_17, o_c1, fv_c1_0, fv_c1_1, fv_c1_2, rf_c1_2, o_c4, fv_c4_0, fv_c4_1, fv_c4_2, rf_c4_2, ia_c2, is_c2, ia_c3, is_c3, ia_c5, is_c5, ia_c6, is_c6, ia_c7, is_c7, ia_c8, is_c8, ia_c9, is_c9, ia_c10, is_c10, ia_c11, is_c11, Li_s, Lr_s, Ll_s, On_s, lget, lset, clr_i, clr_r, clr_n, Kc_i, Kc_v, Kc_x, true_and, and_true, List.length_cons, List.length_nil, nlg, isLn, List.all_cons, List.all_nil, Bool.and_true, Bool.not_false, Nat.zero_le, Nat.reduceAdd, Nat.reduceLeDiff, ↓reduceIte, Int.reduceLT, Int.reduceLE, Int.reduceAdd, Int.reduceSub, Int.reduceMul, Int.reduceNeg, Int.reduceToNat, Int.reduceEq, not_true_eq_false, not_false_eq_true, Int.toNat_zero, true_or, or_true]
    by_cases h0 : dig L = 0 ∨ dig L = 3 ∨ dig L = 7
    · rw [if_pos h0, if_neg (by omega)]
      rw [(r_indexOf hc (Or.inr rfl) r4 hF.1 (by omega)).iff]
      simp (disch := omega) only [u32_0, u32_1, u32_3, u32_5, u32_8, u32_9, u32_12, u32_13, u32_14, u32_15, u32_18, u32_21, u32_22, u32_23, u32_26, u32_27, u32_28, u32_31, u32_32, u32_33, u32_36, u32_37, u32_40, u32_43, u32_44, u32_46, u32_47, u32_50, u32_53, u32_56, u32_57, u32_60, u32_61, u32_64, u32_67, u32_68, u32_69, u32_70, u32_71, u32_72, u32_74, u32_75, u32_76, u32_77, u32_78, u32_79, u32_80, u32_81, u32_84, u32_87, u32_88, u32_89, u32_92, u32_95, u32_98, u32_101, u32_102, u32_103, u32_106, u32_109, u32_112, u32_113, u32_116, u32_117, u32_120, u32_121, u32_122, u32_125, u32_129, o_c0, fv_c0_0, fv_c0_1, fv_c0_2, fv_c0_3, fv_c0_4, fv_c0_5, fv_c0_6, fv_c0_7, rf_c0_7, fv_c0_8, rf_c0_8, fv_c0_9, rf_c0_9, fv_c0_10, rf_c0_10, fv_c0_11, rf_c0_11, fv_c0_12, rf_c0_12, fv_c0_13, rf_c0_13, fv_c0_14, rf_c0_14, fv_c0_15, rf_c0_15, fv_c0_16, rf_c0_16, fv_c0_17, rf_c0_17, o_c1, fv_c1_0, fv_c1_1, fv_c1_2, rf_c1_2, o_c4, fv_c4_0, fv_c4_1, fv_c4_2, rf_c4_2, ia_c2, is_c2, ia_c3, is_c3, ia_c5, is_c5, ia_c6, is_c6, ia_c7, is_c7, ia_c8, is_c8, ia_c9, is_c9, ia_c10, is_c10, ia_c11, is_c11, Li_s, Lr_s, Ll_s, On_s, lget, lset, clr_i, clr_r, clr_n, Kc_i, Kc_v, Kc_x, true_and, and_true, List.length_cons, List.length_nil, nlg, isLn, List.all_cons, List.all_nil, Bool.and_true, Bool.not_false, Nat.zero_le, Nat.reduceAdd, Nat.reduceLeDiff, ↓reduceIte, Int.reduceLT, Int.reduceLE, Int.reduceAdd, Int.reduceSub, Int.reduceMul, Int.reduceNeg, Int.reduceToNat, Int.reduceEq, not_true_eq_false, not_false_eq_true, Int.toNat_zero, true_or, or_true]
      exact key _ (by unfold opt; rw [if_pos h0])
    · rw [if_neg h0, if_pos rfl]
      exact key _ (by unfold opt; rw [if_neg h0])
end CR
