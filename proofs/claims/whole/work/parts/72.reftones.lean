/-! THE REFERENCE: addTone, classIn, the loop of look -/
def TnIs (σ : Sg) (T : List (Int × Int)) : Prop := σ 9 0 17 = (T.length : Int) ∧ ∀ i : Nat, i < T.length → σ 9 13 i = (T.getD i (0, 0)).1 ∧ σ 9 14 i = (T.getD i (0, 0)).2
def frU : Nat → Nat → Nat → Prop := fun g j k => g = 9 ∧ ((j = 0 ∧ k = 17) ∨ j = 13 ∨ j = 14)
section TR
variable {d : Nat} {σ σ' : Sg} {c : Nat} {L F : Fg} {T : List (Int × Int)} {a n k l : Int} {Q : Rs → Sg → Prop}
theorem MK.fr (h : MK σ) (e : ∀ j k, 1 ≤ j → j ≤ 4 → σ' 9 j k = σ 9 j k) : MK σ' := ⟨fun k hk => (e _ _ (by omega) (by omega)).trans (h.1 k hk), fun k hk => (e _ _ (by omega) (by omega)).trans (h.2.1 k hk), fun k hk => (e _ _ (by omega) (by omega)).trans (h.2.2.1 k hk), fun k hk => (e _ _ (by omega) (by omega)).trans (h.2.2.2 k hk)⟩
theorem RwIs.fr (h : RwIs σ F) (e1 : σ' 9 0 14 = σ 9 0 14) (e : ∀ k, σ' 9 11 k = σ 9 11 k ∧ σ' 9 12 k = σ 9 12 k) : RwIs σ' F := ⟨e1.trans h.1, fun i hi => by rw [(e _).1, (e _).2]; exact h.2 i hi⟩
theorem TnIs.fr (h : TnIs σ T) (e1 : σ' 9 0 17 = σ 9 0 17) (e : ∀ k, σ' 9 13 k = σ 9 13 k ∧ σ' 9 14 k = σ 9 14 k) : TnIs σ' T := ⟨e1.trans h.1, fun i hi => by rw [(e _).1, (e _).2]; exact h.2 i hi⟩
theorem w_addToneR (hK : MK σ) (hT : TnIs σ T) (hn : T.length < 4) (hl : 0 ≤ l ∧ l ≤ 6) (ha : -1 ≤ a ∧ a ≤ 1) (k : ∀ σ', TnIs σ' (T ++ [(l, cls l a)]) → Fr frU σ σ' → Q (.inl none) σ') : Wm (d + 2) 89 [vr 9 0, vi l, vi a] σ Q := by
  have e0 := hT.1
  have e1 : up σ 9 13 T.length l 9 0 17 = (T.length : Int) := by
    rw [up_at, if_neg (by omega)]
    exact e0
  have hK1 : MK (up σ 9 13 T.length l) := hK.fr (fun j k j1 j2 => by rw [up_at, if_neg (by omega)])
  rw [e89]
  simp (disch := first | omega | simp) only [u89_0, u89_1, u89_4, u89_5, u89_8, u89_9, u89_10, u89_11, u89_14, u89_15, u89_18, u89_19, u89_20, u89_21, u89_24, u89_25, u89_26i, u89_26r, u89_27, u89_30, u89_31, u89_32, u89_35, o_9_0, fv_9_0_0, rf_9_0_0, fv_9_0_1, fv_9_0_2, fv_9_0_3, fv_9_0_4, fv_9_0_5, rf_9_0_5, fv_9_0_6, rf_9_0_6, fv_9_0_7, rf_9_0_7, fv_9_0_8, fv_9_0_9, fv_9_0_10, fv_9_0_11, fv_9_0_12, fv_9_0_13, fv_9_0_14, rf_9_0_14, fv_9_0_15, fv_9_0_16, fv_9_0_17, rf_9_0_17, fv_9_0_18, fv_9_0_19, fv_9_0_20, rf_9_0_20, fv_9_0_21, rf_9_0_21, fv_9_0_22, rf_9_0_22, fv_9_0_23, fv_9_0_24, fv_9_0_25, fv_9_0_26, fv_9_0_27, fv_9_0_28, fv_9_0_29, fv_9_0_30, fv_9_0_31, fv_9_0_32, rf_9_0_32, fv_9_0_33, fv_9_0_34, fv_9_0_35, fv_9_0_36, rf_9_0_36, fv_9_0_37, fv_9_0_38, fv_9_0_39, fv_9_0_40, fv_9_0_41, ia_9_1, is_9_1, ia_9_2, is_9_2, ia_9_3, is_9_3, ia_9_4, is_9_4, ia_9_5, is_9_5, ia_9_6, is_9_6, ia_9_7, is_9_7, ia_9_8, is_9_8, ia_9_9, is_9_9, ia_9_10, is_9_10, ia_9_11, is_9_11, ia_9_12, is_9_12, ia_9_13, is_9_13, ia_9_14, is_9_14, ia_9_15, is_9_15, ia_9_16, is_9_16, ia_9_17, is_9_17, ia_9_18, is_9_18, ia_9_19, is_9_19, ia_9_20, is_9_20, ia_9_21, is_9_21, ia_9_22, is_9_22, ia_9_24, is_9_24, ia_9_25, is_9_25, ia_9_26, is_9_26, ia_9_27, is_9_27, ia_9_28, is_9_28, ia_9_29, is_9_29, ia_9_30, is_9_30, ia_9_31, is_9_31, iz_9_23, e0, e1, Int.toNat_natCast, Li_s, Lr_s, Ll_s, On_s, lget, lset, clr_i, clr_r, clr_n, Kc_i, Kc_v, Kc_x, true_and, and_true, List.length_cons, List.length_nil, nlg, isLn, List.all_cons, List.all_nil, Bool.and_true, Bool.not_false, Nat.zero_le, Nat.reduceAdd, Nat.reduceLeDiff, ↓reduceIte, Int.reduceLT, Int.reduceLE, Int.reduceAdd, Int.reduceSub, Int.reduceMul, Int.reduceNeg, Int.reduceToNat, Int.reduceEq, not_true_eq_false, not_false_eq_true, Int.toNat_zero, true_or, or_true]
  rw [(r_classOf hK1 hl ha).iff]
  have e2 : up (up σ 9 13 T.length l) 9 14 T.length (cls l a) 9 0 17 = (T.length : Int) := by
    rw [up_at, if_neg (by omega)]
    exact e1
  simp (disch := first | omega | simp) only [u89_0, u89_1, u89_4, u89_5, u89_8, u89_9, u89_10, u89_11, u89_14, u89_15, u89_18, u89_19, u89_20, u89_21, u89_24, u89_25, u89_26i, u89_26r, u89_27, u89_30, u89_31, u89_32, u89_35, o_9_0, fv_9_0_0, rf_9_0_0, fv_9_0_1, fv_9_0_2, fv_9_0_3, fv_9_0_4, fv_9_0_5, rf_9_0_5, fv_9_0_6, rf_9_0_6, fv_9_0_7, rf_9_0_7, fv_9_0_8, fv_9_0_9, fv_9_0_10, fv_9_0_11, fv_9_0_12, fv_9_0_13, fv_9_0_14, rf_9_0_14, fv_9_0_15, fv_9_0_16, fv_9_0_17, rf_9_0_17, fv_9_0_18, fv_9_0_19, fv_9_0_20, rf_9_0_20, fv_9_0_21, rf_9_0_21, fv_9_0_22, rf_9_0_22, fv_9_0_23, fv_9_0_24, fv_9_0_25, fv_9_0_26, fv_9_0_27, fv_9_0_28, fv_9_0_29, fv_9_0_30, fv_9_0_31, fv_9_0_32, rf_9_0_32, fv_9_0_33, fv_9_0_34, fv_9_0_35, fv_9_0_36, rf_9_0_36, fv_9_0_37, fv_9_0_38, fv_9_0_39, fv_9_0_40, fv_9_0_41, ia_9_1, is_9_1, ia_9_2, is_9_2, ia_9_3, is_9_3, ia_9_4, is_9_4, ia_9_5, is_9_5, ia_9_6, is_9_6, ia_9_7, is_9_7, ia_9_8, is_9_8, ia_9_9, is_9_9, ia_9_10, is_9_10, ia_9_11, is_9_11, ia_9_12, is_9_12, ia_9_13, is_9_13, ia_9_14, is_9_14, ia_9_15, is_9_15, ia_9_16, is_9_16, ia_9_17, is_9_17, ia_9_18, is_9_18, ia_9_19, is_9_19, ia_9_20, is_9_20, ia_9_21, is_9_21, ia_9_22, is_9_22, ia_9_24, is_9_24, ia_9_25, is_9_25, ia_9_26, is_9_26, ia_9_27, is_9_27, ia_9_28, is_9_28, ia_9_29, is_9_29, ia_9_30, is_9_30, ia_9_31, is_9_31, iz_9_23, e2, Int.toNat_natCast, Li_s, Lr_s, Ll_s, On_s, lget, lset, clr_i, clr_r, clr_n, Kc_i, Kc_v, Kc_x, true_and, and_true, List.length_cons, List.length_nil, nlg, isLn, List.all_cons, List.all_nil, Bool.and_true, Bool.not_false, Nat.zero_le, Nat.reduceAdd, Nat.reduceLeDiff, ↓reduceIte, Int.reduceLT, Int.reduceLE, Int.reduceAdd, Int.reduceSub, Int.reduceMul, Int.reduceNeg, Int.reduceToNat, Int.reduceEq, not_true_eq_false, not_false_eq_true, Int.toNat_zero, true_or, or_true]
  refine k _ ⟨?_, fun i hi => ?_⟩ (Fr.tr (Fr.tr (Fr.wr (by simp [frU])) (Fr.wr (by simp [frU]))) (Fr.wr (by simp [frU])))
  · rw [up_at, if_pos ⟨rfl, rfl, rfl⟩]
    simp
  · rw [getD_snoc]
    have hi2 : i < T.length + 1 := by simpa using hi
    by_cases hi3 : i = T.length
    · subst hi3
      simp [up_at]
    · have := hT.2 i (by omega)
      rw [if_pos (by omega)]
      simp [up_at, hi3, this]
theorem idxF_in : ∀ (M : Fg) (n i : Int), 0 ≤ i → (idxF M n i = -1 ∨ (i ≤ idxF M n i ∧ idxF M n i < i + M.length))
  | [], _, _, _ => Or.inl rfl
  | p :: t, n, i, h0 => by
    simp only [idxF]
    by_cases e : p.1 = n
    · rw [if_pos e]
      simp only [List.length_cons]
      omega
    · rw [if_neg e]
      have := idxF_in t n (i + 1) (by omega)
      simp only [List.length_cons]
      omega
/-- the class of the tone that figure n means, or -1 -/
def clI (F : Fg) (T : List (Int × Int)) (n : Int) : Int := if idx F n = -1 then -1 else clsAt T (idx F n + 1)
theorem l_classIn (hF : RwIs σ F) (h3 : F.length ≤ 3) (hT : TnIs σ T) (hl : T.length = F.length + 1) (ho : FgOk F) (hn : -1000 ≤ n ∧ n ≤ 1000) : ∀ (M : Fg) (i : Nat), F.drop i = M → i ≤ F.length → (Wx d 90 2 [some (vr 9 0), some (vi n), some (vi (i : Int))] [] σ Q ↔ Q (.inl (some (vi (if idxF M n (i : Int) = -1 then -1 else clsAt T (idxF M n (i : Int) + 1))))) σ) := by
  have e0 := hF.1
  intro M
  induction M with
  | nil =>
    intro i hd hi
    have := drop_no hd
    rw [u90_2]
    simp (disch := first | omega | simp) only [u90_0, u90_1, u90_3, u90_4, u90_7, u90_10, u90_11, u90_14, u90_15, u90_16, u90_17, u90_20, u90_21, u90_24, u90_25, u90_26, u90_27, u90_28, u90_29, u90_32, u90_35, u90_36, o_9_0, fv_9_0_0, rf_9_0_0, fv_9_0_1, fv_9_0_2, fv_9_0_3, fv_9_0_4, fv_9_0_5, rf_9_0_5, fv_9_0_6, rf_9_0_6, fv_9_0_7, rf_9_0_7, fv_9_0_8, fv_9_0_9, fv_9_0_10, fv_9_0_11, fv_9_0_12, fv_9_0_13, fv_9_0_14, rf_9_0_14, fv_9_0_15, fv_9_0_16, fv_9_0_17, rf_9_0_17, fv_9_0_18, fv_9_0_19, fv_9_0_20, rf_9_0_20, fv_9_0_21, rf_9_0_21, fv_9_0_22, rf_9_0_22, fv_9_0_23, fv_9_0_24, fv_9_0_25, fv_9_0_26, fv_9_0_27, fv_9_0_28, fv_9_0_29, fv_9_0_30, fv_9_0_31, fv_9_0_32, rf_9_0_32, fv_9_0_33, fv_9_0_34, fv_9_0_35, fv_9_0_36, rf_9_0_36, fv_9_0_37, fv_9_0_38, fv_9_0_39, fv_9_0_40, fv_9_0_41, ia_9_1, is_9_1, ia_9_2, is_9_2, ia_9_3, is_9_3, ia_9_4, is_9_4, ia_9_5, is_9_5, ia_9_6, is_9_6, ia_9_7, is_9_7, ia_9_8, is_9_8, ia_9_9, is_9_9, ia_9_10, is_9_10, ia_9_11, is_9_11, ia_9_12, is_9_12, ia_9_13, is_9_13, ia_9_14, is_9_14, ia_9_15, is_9_15, ia_9_16, is_9_16, ia_9_17, is_9_17, ia_9_18, is_9_18, ia_9_19, is_9_19, ia_9_20, is_9_20, ia_9_21, is_9_21, ia_9_22, is_9_22, ia_9_24, is_9_24, ia_9_25, is_9_25, ia_9_26, is_9_26, ia_9_27, is_9_27, ia_9_28, is_9_28, ia_9_29, is_9_29, ia_9_30, is_9_30, ia_9_31, is_9_31, iz_9_23, e0, Int.toNat_natCast, Li_s, Lr_s, Ll_s, On_s, lget, lset, clr_i, clr_r, clr_n, Kc_i, Kc_v, Kc_x, true_and, and_true, List.length_cons, List.length_nil, nlg, isLn, List.all_cons, List.all_nil, Bool.and_true, Bool.not_false, Nat.zero_le, Nat.reduceAdd, Nat.reduceLeDiff, ↓reduceIte, Int.reduceLT, Int.reduceLE, Int.reduceAdd, Int.reduceSub, Int.reduceMul, Int.reduceNeg, Int.reduceToNat, Int.reduceEq, not_true_eq_false, not_false_eq_true, Int.toNat_zero, true_or, or_true]
    rw [if_pos (by omega)]
    rfl
  | cons p t ih =>
    intro i hd hi
    obtain ⟨h1, h2, h4⟩ := drop_at hd
    obtain ⟨q1, q2⟩ := hF.2 i h1
    rw [h2] at q1 q2
    have hp := ho p (List.drop_subset i F (by rw [hd]; simp))
    have z1 : ((i : Int) + 1).toNat = i + 1 := by omega
    have q3 := (hT.2 (i + 1) (by omega)).2
    rw [u90_2]
    simp (disch := first | omega | simp) only [u90_0, u90_1, u90_3, u90_4, u90_7, u90_10, u90_11, u90_14, u90_15, u90_16, u90_17, u90_20, u90_21, u90_24, u90_25, u90_26, u90_27, u90_28, u90_29, u90_32, u90_35, u90_36, o_9_0, fv_9_0_0, rf_9_0_0, fv_9_0_1, fv_9_0_2, fv_9_0_3, fv_9_0_4, fv_9_0_5, rf_9_0_5, fv_9_0_6, rf_9_0_6, fv_9_0_7, rf_9_0_7, fv_9_0_8, fv_9_0_9, fv_9_0_10, fv_9_0_11, fv_9_0_12, fv_9_0_13, fv_9_0_14, rf_9_0_14, fv_9_0_15, fv_9_0_16, fv_9_0_17, rf_9_0_17, fv_9_0_18, fv_9_0_19, fv_9_0_20, rf_9_0_20, fv_9_0_21, rf_9_0_21, fv_9_0_22, rf_9_0_22, fv_9_0_23, fv_9_0_24, fv_9_0_25, fv_9_0_26, fv_9_0_27, fv_9_0_28, fv_9_0_29, fv_9_0_30, fv_9_0_31, fv_9_0_32, rf_9_0_32, fv_9_0_33, fv_9_0_34, fv_9_0_35, fv_9_0_36, rf_9_0_36, fv_9_0_37, fv_9_0_38, fv_9_0_39, fv_9_0_40, fv_9_0_41, ia_9_1, is_9_1, ia_9_2, is_9_2, ia_9_3, is_9_3, ia_9_4, is_9_4, ia_9_5, is_9_5, ia_9_6, is_9_6, ia_9_7, is_9_7, ia_9_8, is_9_8, ia_9_9, is_9_9, ia_9_10, is_9_10, ia_9_11, is_9_11, ia_9_12, is_9_12, ia_9_13, is_9_13, ia_9_14, is_9_14, ia_9_15, is_9_15, ia_9_16, is_9_16, ia_9_17, is_9_17, ia_9_18, is_9_18, ia_9_19, is_9_19, ia_9_20, is_9_20, ia_9_21, is_9_21, ia_9_22, is_9_22, ia_9_24, is_9_24, ia_9_25, is_9_25, ia_9_26, is_9_26, ia_9_27, is_9_27, ia_9_28, is_9_28, ia_9_29, is_9_29, ia_9_30, is_9_30, ia_9_31, is_9_31, iz_9_23, e0, Int.toNat_natCast, q1, z1, q3, Li_s, Lr_s, Ll_s, On_s, lget, lset, clr_i, clr_r, clr_n, Kc_i, Kc_v, Kc_x, true_and, and_true, List.length_cons, List.length_nil, nlg, isLn, List.all_cons, List.all_nil, Bool.and_true, Bool.not_false, Nat.zero_le, Nat.reduceAdd, Nat.reduceLeDiff, ↓reduceIte, Int.reduceLT, Int.reduceLE, Int.reduceAdd, Int.reduceSub, Int.reduceMul, Int.reduceNeg, Int.reduceToNat, Int.reduceEq, not_true_eq_false, not_false_eq_true, Int.toNat_zero, true_or, or_true]
    rw [if_neg (by omega)]
    by_cases e : p.1 = n
    · have w : idxF (p :: t) n (i : Int) = (i : Int) := by simp [idxF, e]
      rw [if_neg (fun q => q e), w, if_neg (by omega)]
      unfold clsAt
      rw [z1]
    · have w : idxF (p :: t) n (i : Int) = idxF t n ((i + 1 : Nat) : Int) := by
        rw [show ((i + 1 : Nat) : Int) = (i : Int) + 1 by omega]
        simp [idxF, e]
      rw [if_pos e, w, show (i : Int) + 1 = ((i + 1 : Nat) : Int) by omega, ih (i + 1) h4 (by omega)]
theorem r_classIn (hF : RwIs σ F) (h3 : F.length ≤ 3) (hT : TnIs σ T) (hl : T.length = F.length + 1) (ho : FgOk F) (hn : -1000 ≤ n ∧ n ≤ 1000) : Rn d 90 [vr 9 0, vi n] σ (.inl (some (vi (clI F T n)))) σ := by
  refine Rn.of ?_
  rw [e90]
  simp (disch := first | omega | simp) only [u90_0, u90_1, u90_3, u90_4, u90_7, u90_10, u90_11, u90_14, u90_15, u90_16, u90_17, u90_20, u90_21, u90_24, u90_25, u90_26, u90_27, u90_28, u90_29, u90_32, u90_35, u90_36, Li_s, Lr_s, Ll_s, On_s, lget, lset, clr_i, clr_r, clr_n, Kc_i, Kc_v, Kc_x, true_and, and_true, List.length_cons, List.length_nil, nlg, isLn, List.all_cons, List.all_nil, Bool.and_true, Bool.not_false, Nat.zero_le, Nat.reduceAdd, Nat.reduceLeDiff, ↓reduceIte, Int.reduceLT, Int.reduceLE, Int.reduceAdd, Int.reduceSub, Int.reduceMul, Int.reduceNeg, Int.reduceToNat, Int.reduceEq, not_true_eq_false, not_false_eq_true, Int.toNat_zero, true_or, or_true]
  exact (l_classIn hF h3 hT hl ho hn F 0 rfl (by omega)).mpr ⟨rfl, rfl⟩
theorem clI_in (hT : TnOk T) (n : Int) : -1 ≤ clI F T n ∧ clI F T n ≤ 11 ∧ (0 ≤ clI F T n ↔ ¬ idx F n = -1) := by
  have := clsAt_in (i := idx F n + 1) hT
  unfold clI
  by_cases h : idx F n = -1
  · rw [if_pos h]
    omega
  · rw [if_neg h]
    omega
end TR
