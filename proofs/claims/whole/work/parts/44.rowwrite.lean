/-! ROWS OF FIGURES are written: the class's side -/
/-- nothing changes but what P names -/
def Fr (P : Nat → Nat → Nat → Prop) (σ σ' : Sg) : Prop := ∀ g j k, ¬ P g j k → σ' g j k = σ g j k
theorem Fr.rf {P : Nat → Nat → Nat → Prop} {σ : Sg} : Fr P σ σ := fun _ _ _ _ => rfl
theorem Fr.tr {P : Nat → Nat → Nat → Prop} {σ σ1 σ2 : Sg} (h1 : Fr P σ σ1) (h2 : Fr P σ1 σ2) : Fr P σ σ2 := fun g j k h => (h2 g j k h).trans (h1 g j k h)
theorem Fr.wr {P : Nat → Nat → Nat → Prop} {σ : Sg} {g j k : Nat} {z : Int} (h : P g j k) : Fr P σ (up σ g j k z) := fun g' j' k' hn => by
  simp only [up]
  rw [if_neg]
  rintro ⟨rfl, rfl, rfl⟩
  exact hn h
theorem Fr.mono {P P' : Nat → Nat → Nat → Prop} {σ σ' : Sg} (h : Fr P σ σ') (hp : ∀ g j k, P g j k → P' g j k) : Fr P' σ σ' := fun g j k hn => h g j k (fun q => hn (hp g j k q))
def frR (c r : Nat) : Nat → Nat → Nat → Prop := fun g j k => g = c ∧ (j = r + 1 ∨ j = r + 2 ∨ (j = r ∧ k = 2))
theorem up_at {σ : Sg} {g j k g' j' k' : Nat} {z : Int} : up σ g j k z g' j' k' = if g' = g ∧ j' = j ∧ k' = k then z else σ g' j' k' := rfl
theorem RowIs.fr {σ σ' : Sg} {c r : Nat} {L : Fg} (h : RowIs σ c r L) (hk : σ' c r 2 = σ c r 2 ∧ (∀ k, σ' c (r + 1) k = σ c (r + 1) k) ∧ (∀ k, σ' c (r + 2) k = σ c (r + 2) k)) : RowIs σ' c r L := by
  obtain ⟨k1, k2, k3⟩ := hk
  rcases L with _ | ⟨p, _ | ⟨q, _ | ⟨w, _ | ⟨x, t⟩⟩⟩⟩
  · exact k1.trans h
  · simp only [RowIs, k1, k2, k3] at h ⊢
    exact h
  · simp only [RowIs, k1, k2, k3] at h ⊢
    exact h
  · simp only [RowIs, k1, k2, k3] at h ⊢
    exact h
  · exact h
theorem RowIs.len {σ : Sg} {c r : Nat} {L : Fg} (h : RowIs σ c r L) : σ c r 2 = (L.length : Int) ∧ L.length ≤ 3 := by
  rcases L with _ | ⟨⟨p1, p2⟩, _ | ⟨⟨q1, q2⟩, _ | ⟨⟨w1, w2⟩, _ | ⟨x, t⟩⟩⟩⟩
  · exact ⟨h, by decide⟩
  · exact ⟨h.1, by simp⟩
  · exact ⟨h.1, by simp⟩
  · exact ⟨h.1, by simp⟩
  · exact h.elim
def addR (σ : Sg) (c r m : Nat) (n s : Int) : Sg := up (up (up σ c (r + 1) m n) c (r + 2) m s) c r 2 ((m : Int) + 1)
theorem addR_fr {σ : Sg} {c r m : Nat} {n s : Int} : Fr (frR c r) σ (addR σ c r m n s) :=
  Fr.tr (Fr.tr (Fr.wr ⟨rfl, Or.inl rfl⟩) (Fr.wr ⟨rfl, Or.inr (Or.inl rfl)⟩)) (Fr.wr ⟨rfl, Or.inr (Or.inr ⟨rfl, rfl⟩)⟩)
theorem addR_is {σ : Sg} {c r : Nat} {M : Fg} {n s : Int} (h : RowIs σ c r M) (hM : M.length < 3) : RowIs (addR σ c r M.length n s) c r (M ++ [(n, s)]) := by
  rcases M with _ | ⟨p, _ | ⟨q, _ | ⟨w, t⟩⟩⟩
  · simp [RowIs, addR, up_at]
  · simp only [RowIs] at h
    simp [RowIs, addR, up_at, h]
  · simp only [RowIs] at h
    simp [RowIs, addR, up_at, h]
  · simp only [List.length_cons] at hM
    omega
section RX
variable {d : Nat} {σ : Sg} {c r : Nat} {L M : Fg} {n s : Int} {Q : Rs → Sg → Prop}
theorem r_clear (hc : c < 8) (hr : r = 1 ∨ r = 4) : Rn d 20 [vr c r] σ (.inl none) (up σ c r 2 0) := by
  refine Rn.of ?_
  rw [e20]
  rcases hr with rfl | rfl
  · simp (disch := omega) only [u20_0, u20_1, u20_2, u20_5, o_c0, fv_c0_0, fv_c0_1, fv_c0_2, fv_c0_3, fv_c0_4, fv_c0_5, fv_c0_6, fv_c0_7, rf_c0_7, fv_c0_8, rf_c0_8, fv_c0_9, rf_c0_9, fv_c0_10, rf_c0_10, fv_c0_11, rf_c0_11, fv_c0_12, rf_c0_12, fv_c0_13, rf_c0_13, fv_c0_14, rf_c0_14, fv_c0_15, rf_c0_15, fv_c0_16, rf_c0_16, fv_c0_17, rf_c0_17, o_c1, fv_c1_0, fv_c1_1, fv_c1_2, rf_c1_2, o_c4, fv_c4_0, fv_c4_1, fv_c4_2, rf_c4_2, ia_c2, is_c2, ia_c3, is_c3, ia_c5, is_c5, ia_c6, is_c6, ia_c7, is_c7, ia_c8, is_c8, ia_c9, is_c9, ia_c10, is_c10, ia_c11, is_c11, Li_s, Lr_s, Ll_s, On_s, lget, lset, clr_i, clr_r, clr_n, Kc_i, Kc_v, Kc_x, true_and, and_true, List.length_cons, List.length_nil, nlg, isLn, List.all_cons, List.all_nil, Bool.and_true, Bool.not_false, Nat.zero_le, Nat.reduceAdd, Nat.reduceLeDiff, ↓reduceIte, Int.reduceLT, Int.reduceLE, Int.reduceAdd, Int.reduceSub, Int.reduceMul, Int.reduceNeg, Int.reduceToNat, Int.reduceEq, not_true_eq_false, not_false_eq_true, Int.toNat_zero]
  · simp (disch := omega) only [u20_0, u20_1, u20_2, u20_5, o_c0, fv_c0_0, fv_c0_1, fv_c0_2, fv_c0_3, fv_c0_4, fv_c0_5, fv_c0_6, fv_c0_7, rf_c0_7, fv_c0_8, rf_c0_8, fv_c0_9, rf_c0_9, fv_c0_10, rf_c0_10, fv_c0_11, rf_c0_11, fv_c0_12, rf_c0_12, fv_c0_13, rf_c0_13, fv_c0_14, rf_c0_14, fv_c0_15, rf_c0_15, fv_c0_16, rf_c0_16, fv_c0_17, rf_c0_17, o_c1, fv_c1_0, fv_c1_1, fv_c1_2, rf_c1_2, o_c4, fv_c4_0, fv_c4_1, fv_c4_2, rf_c4_2, ia_c2, is_c2, ia_c3, is_c3, ia_c5, is_c5, ia_c6, is_c6, ia_c7, is_c7, ia_c8, is_c8, ia_c9, is_c9, ia_c10, is_c10, ia_c11, is_c11, Li_s, Lr_s, Ll_s, On_s, lget, lset, clr_i, clr_r, clr_n, Kc_i, Kc_v, Kc_x, true_and, and_true, List.length_cons, List.length_nil, nlg, isLn, List.all_cons, List.all_nil, Bool.and_true, Bool.not_false, Nat.zero_le, Nat.reduceAdd, Nat.reduceLeDiff, ↓reduceIte, Int.reduceLT, Int.reduceLE, Int.reduceAdd, Int.reduceSub, Int.reduceMul, Int.reduceNeg, Int.reduceToNat, Int.reduceEq, not_true_eq_false, not_false_eq_true, Int.toNat_zero]
theorem r_add (hc : c < 8) (hr : r = 1 ∨ r = 4) (h : RowIs σ c r M) (hM : M.length < 3) : Rn d 22 [vr c r, vi n, vi s] σ (.inl none) (addR σ c r M.length n s) := by
  have hl := h.len.1
  have e1 : ∀ z : Int, up σ c (r + 1) M.length z c r 2 = (M.length : Int) := fun z => by rw [up_at, if_neg (by omega), hl]
  have e2 : ∀ z z' : Int, up (up σ c (r + 1) M.length z) c (r + 2) M.length z' c r 2 = (M.length : Int) := fun z z' => by rw [up_at, if_neg (by omega), e1]
  refine Rn.of ?_
  rw [e22]
  rcases hr with rfl | rfl
  · simp only [Nat.reduceAdd] at e1 e2
    simp (disch := omega) only [u22_0, u22_1, u22_4, u22_5, u22_8, u22_9, u22_12, u22_13, u22_16, u22_17, u22_18, u22_19, u22_22, u22_23, u22_26, u22_27, u22_28, u22_29i, u22_29r, u22_30, u22_33, u22_34, u22_35, u22_38, o_c0, fv_c0_0, fv_c0_1, fv_c0_2, fv_c0_3, fv_c0_4, fv_c0_5, fv_c0_6, fv_c0_7, rf_c0_7, fv_c0_8, rf_c0_8, fv_c0_9, rf_c0_9, fv_c0_10, rf_c0_10, fv_c0_11, rf_c0_11, fv_c0_12, rf_c0_12, fv_c0_13, rf_c0_13, fv_c0_14, rf_c0_14, fv_c0_15, rf_c0_15, fv_c0_16, rf_c0_16, fv_c0_17, rf_c0_17, o_c1, fv_c1_0, fv_c1_1, fv_c1_2, rf_c1_2, o_c4, fv_c4_0, fv_c4_1, fv_c4_2, rf_c4_2, ia_c2, is_c2, ia_c3, is_c3, ia_c5, is_c5, ia_c6, is_c6, ia_c7, is_c7, ia_c8, is_c8, ia_c9, is_c9, ia_c10, is_c10, ia_c11, is_c11, hl, e1, e2, Int.toNat_natCast, Li_s, Lr_s, Ll_s, On_s, lget, lset, clr_i, clr_r, clr_n, Kc_i, Kc_v, Kc_x, true_and, and_true, List.length_cons, List.length_nil, nlg, isLn, List.all_cons, List.all_nil, Bool.and_true, Bool.not_false, Nat.zero_le, Nat.reduceAdd, Nat.reduceLeDiff, ↓reduceIte, Int.reduceLT, Int.reduceLE, Int.reduceAdd, Int.reduceSub, Int.reduceMul, Int.reduceNeg, Int.reduceToNat, Int.reduceEq, not_true_eq_false, not_false_eq_true, Int.toNat_zero]
    rw [if_neg (by omega)]
    rfl
  · simp only [Nat.reduceAdd] at e1 e2
    simp (disch := omega) only [u22_0, u22_1, u22_4, u22_5, u22_8, u22_9, u22_12, u22_13, u22_16, u22_17, u22_18, u22_19, u22_22, u22_23, u22_26, u22_27, u22_28, u22_29i, u22_29r, u22_30, u22_33, u22_34, u22_35, u22_38, o_c0, fv_c0_0, fv_c0_1, fv_c0_2, fv_c0_3, fv_c0_4, fv_c0_5, fv_c0_6, fv_c0_7, rf_c0_7, fv_c0_8, rf_c0_8, fv_c0_9, rf_c0_9, fv_c0_10, rf_c0_10, fv_c0_11, rf_c0_11, fv_c0_12, rf_c0_12, fv_c0_13, rf_c0_13, fv_c0_14, rf_c0_14, fv_c0_15, rf_c0_15, fv_c0_16, rf_c0_16, fv_c0_17, rf_c0_17, o_c1, fv_c1_0, fv_c1_1, fv_c1_2, rf_c1_2, o_c4, fv_c4_0, fv_c4_1, fv_c4_2, rf_c4_2, ia_c2, is_c2, ia_c3, is_c3, ia_c5, is_c5, ia_c6, is_c6, ia_c7, is_c7, ia_c8, is_c8, ia_c9, is_c9, ia_c10, is_c10, ia_c11, is_c11, hl, e1, e2, Int.toNat_natCast, Li_s, Lr_s, Ll_s, On_s, lget, lset, clr_i, clr_r, clr_n, Kc_i, Kc_v, Kc_x, true_and, and_true, List.length_cons, List.length_nil, nlg, isLn, List.all_cons, List.all_nil, Bool.and_true, Bool.not_false, Nat.zero_le, Nat.reduceAdd, Nat.reduceLeDiff, ↓reduceIte, Int.reduceLT, Int.reduceLE, Int.reduceAdd, Int.reduceSub, Int.reduceMul, Int.reduceNeg, Int.reduceToNat, Int.reduceEq, not_true_eq_false, not_false_eq_true, Int.toNat_zero]
    rw [if_neg (by omega)]
    rfl
def stp1 (L M : Fg) (n : Int) : Fg := if n = 0 then M else M ++ [(n, sgn L n)]
/-- the row that L stands for, out of the long row's digits -/
def ful0 (L : Fg) (D : Int) : Fg := stp1 L (stp1 L (stp1 L [] (D / 100 % 10)) (D / 10 % 10)) (D % 10)
def ful (L : Fg) : Fg := ful0 L (lng (dig L))
theorem stp1_len {L M : Fg} {n : Int} : (stp1 L M n).length ≤ M.length + 1 := by
  unfold stp1
  split
  · omega
  · simp
theorem l_sp {D u : Int} {x4 x5 : Option Va} (hc : c < 8) (hu : u = 100 ∨ u = 10 ∨ u = 1) (hD : 0 ≤ D ∧ D ≤ 999) (h1 : RowIs σ c 1 L) (ho : FgOk L) (h4 : RowIs σ c 4 M) (hM : M.length ≤ 2)
    (k : ∀ σ' y4 y5, RowIs σ' c 1 L → RowIs σ' c 4 (stp1 L M (D / u % 10)) → Fr (frR c 4) σ σ' → Wx (d + 2) 25 12 [some (vr c 4), some (vr c 1), some (vi D), some (vi (u / 10)), y4, y5] [] σ' Q) : Wx (d + 2) 25 12 [some (vr c 4), some (vr c 1), some (vi D), some (vi u), x4, x5] [] σ Q := by
  have hb : ∀ u : Int, (u = 100 ∨ u = 10 ∨ u = 1) → Int.tdiv D u = D / u ∧ Int.tmod (D / u) 10 = D / u % 10 ∧ 0 ≤ D / u ∧ D / u ≤ 999 ∧ Int.tdiv u 10 = u / 10 := by
    rintro u (rfl | rfl | rfl)
    · exact ⟨Int.tdiv_eq_ediv_of_nonneg hD.1, Int.tmod_eq_emod_of_nonneg (by omega), by omega, by omega, rfl⟩
    · exact ⟨Int.tdiv_eq_ediv_of_nonneg hD.1, Int.tmod_eq_emod_of_nonneg (by omega), by omega, by omega, rfl⟩
    · exact ⟨Int.tdiv_eq_ediv_of_nonneg hD.1, Int.tmod_eq_emod_of_nonneg (by omega), by omega, by omega, rfl⟩
  obtain ⟨b1, b2, b3, b4, b5⟩ := hb u hu
  have hu2 : 0 < u ∧ u ≤ 100 := by omega
  have b6 : 0 ≤ D / u % 10 ∧ D / u % 10 ≤ 9 := by omega
  have hi := idx_in (n := D / u % 10) h1
  have key : ∀ (s : Int) (y4 y5 : Option Va), s = sgn L (D / u % 10) → ¬ D / u % 10 = 0 → y4 = some (vi (D / u % 10)) → Wx (d + 2) 25 57 [some (vr c 4), some (vr c 1), some (vi D), some (vi u), y4, y5] [vi s, vi (D / u % 10), vr c 4] σ Q := by
    rintro s y4 y5 rfl h0 rfl
    simp (disch := omega) only [u25_0, u25_1, u25_4, u25_5, u25_8, u25_9, u25_11, u25_13, u25_16, u25_17, u25_18, u25_19, u25_21, u25_22, u25_24, u25_26, u25_29, u25_30, u25_32, u25_35, u25_37, u25_38, u25_40, u25_42, u25_43, u25_46, u25_47, u25_50, u25_51, u25_54, u25_56, u25_57, u25_60, u25_61, u25_63, u25_64, u25_65, u25_68, o_c0, fv_c0_0, fv_c0_1, fv_c0_2, fv_c0_3, fv_c0_4, fv_c0_5, fv_c0_6, fv_c0_7, rf_c0_7, fv_c0_8, rf_c0_8, fv_c0_9, rf_c0_9, fv_c0_10, rf_c0_10, fv_c0_11, rf_c0_11, fv_c0_12, rf_c0_12, fv_c0_13, rf_c0_13, fv_c0_14, rf_c0_14, fv_c0_15, rf_c0_15, fv_c0_16, rf_c0_16, fv_c0_17, rf_c0_17, o_c1, fv_c1_0, fv_c1_1, fv_c1_2, rf_c1_2, o_c4, fv_c4_0, fv_c4_1, fv_c4_2, rf_c4_2, ia_c2, is_c2, ia_c3, is_c3, ia_c5, is_c5, ia_c6, is_c6, ia_c7, is_c7, ia_c8, is_c8, ia_c9, is_c9, ia_c10, is_c10, ia_c11, is_c11, Li_s, Lr_s, Ll_s, On_s, lget, lset, clr_i, clr_r, clr_n, Kc_i, Kc_v, Kc_x, true_and, and_true, List.length_cons, List.length_nil, nlg, isLn, List.all_cons, List.all_nil, Bool.and_true, Bool.not_false, Nat.zero_le, Nat.reduceAdd, Nat.reduceLeDiff, ↓reduceIte, Int.reduceLT, Int.reduceLE, Int.reduceAdd, Int.reduceSub, Int.reduceMul, Int.reduceNeg, Int.reduceToNat, Int.reduceEq, not_true_eq_false, not_false_eq_true, Int.toNat_zero]
    rw [(r_add hc (Or.inr rfl) h4 (by omega)).iff]
    simp (disch := omega) only [u25_0, u25_1, u25_4, u25_5, u25_8, u25_9, u25_11, u25_13, u25_16, u25_17, u25_18, u25_19, u25_21, u25_22, u25_24, u25_26, u25_29, u25_30, u25_32, u25_35, u25_37, u25_38, u25_40, u25_42, u25_43, u25_46, u25_47, u25_50, u25_51, u25_54, u25_56, u25_57, u25_60, u25_61, u25_63, u25_64, u25_65, u25_68, o_c0, fv_c0_0, fv_c0_1, fv_c0_2, fv_c0_3, fv_c0_4, fv_c0_5, fv_c0_6, fv_c0_7, rf_c0_7, fv_c0_8, rf_c0_8, fv_c0_9, rf_c0_9, fv_c0_10, rf_c0_10, fv_c0_11, rf_c0_11, fv_c0_12, rf_c0_12, fv_c0_13, rf_c0_13, fv_c0_14, rf_c0_14, fv_c0_15, rf_c0_15, fv_c0_16, rf_c0_16, fv_c0_17, rf_c0_17, o_c1, fv_c1_0, fv_c1_1, fv_c1_2, rf_c1_2, o_c4, fv_c4_0, fv_c4_1, fv_c4_2, rf_c4_2, ia_c2, is_c2, ia_c3, is_c3, ia_c5, is_c5, ia_c6, is_c6, ia_c7, is_c7, ia_c8, is_c8, ia_c9, is_c9, ia_c10, is_c10, ia_c11, is_c11, b5, Li_s, Lr_s, Ll_s, On_s, lget, lset, clr_i, clr_r, clr_n, Kc_i, Kc_v, Kc_x, true_and, and_true, List.length_cons, List.length_nil, nlg, isLn, List.all_cons, List.all_nil, Bool.and_true, Bool.not_false, Nat.zero_le, Nat.reduceAdd, Nat.reduceLeDiff, ↓reduceIte, Int.reduceLT, Int.reduceLE, Int.reduceAdd, Int.reduceSub, Int.reduceMul, Int.reduceNeg, Int.reduceToNat, Int.reduceEq, not_true_eq_false, not_false_eq_true, Int.toNat_zero]
    refine k _ _ _ (h1.fr ?_) ?_ addR_fr
    · exact ⟨addR_fr _ _ _ (by simp only [frR]; omega), fun k => addR_fr _ _ _ (by simp only [frR]; omega), fun k => addR_fr _ _ _ (by simp only [frR]; omega)⟩
    · unfold stp1
      rw [if_neg h0]
      exact addR_is h4 (by omega)
  rw [u25_12]
  simp (disch := omega) only [u25_0, u25_1, u25_4, u25_5, u25_8, u25_9, u25_11, u25_13, u25_16, u25_17, u25_18, u25_19, u25_21, u25_22, u25_24, u25_26, u25_29, u25_30, u25_32, u25_35, u25_37, u25_38, u25_40, u25_42, u25_43, u25_46, u25_47, u25_50, u25_51, u25_54, u25_56, u25_60, u25_61, u25_63, u25_64, u25_65, u25_68, o_c0, fv_c0_0, fv_c0_1, fv_c0_2, fv_c0_3, fv_c0_4, fv_c0_5, fv_c0_6, fv_c0_7, rf_c0_7, fv_c0_8, rf_c0_8, fv_c0_9, rf_c0_9, fv_c0_10, rf_c0_10, fv_c0_11, rf_c0_11, fv_c0_12, rf_c0_12, fv_c0_13, rf_c0_13, fv_c0_14, rf_c0_14, fv_c0_15, rf_c0_15, fv_c0_16, rf_c0_16, fv_c0_17, rf_c0_17, o_c1, fv_c1_0, fv_c1_1, fv_c1_2, rf_c1_2, o_c4, fv_c4_0, fv_c4_1, fv_c4_2, rf_c4_2, ia_c2, is_c2, ia_c3, is_c3, ia_c5, is_c5, ia_c6, is_c6, ia_c7, is_c7, ia_c8, is_c8, ia_c9, is_c9, ia_c10, is_c10, ia_c11, is_c11, b1, b2, b5, Li_s, Lr_s, Ll_s, On_s, lget, lset, clr_i, clr_r, clr_n, Kc_i, Kc_v, Kc_x, true_and, and_true, List.length_cons, List.length_nil, nlg, isLn, List.all_cons, List.all_nil, Bool.and_true, Bool.not_false, Nat.zero_le, Nat.reduceAdd, Nat.reduceLeDiff, ↓reduceIte, Int.reduceLT, Int.reduceLE, Int.reduceAdd, Int.reduceSub, Int.reduceMul, Int.reduceNeg, Int.reduceToNat, Int.reduceEq, not_true_eq_false, not_false_eq_true, Int.toNat_zero]
  rw [if_neg (by omega)]
  by_cases h0 : D / u % 10 = 0
  · rw [if_pos h0]
    refine k _ _ _ h1 ?_ Fr.rf
    unfold stp1
    rw [if_pos h0]
    exact h4
  · rw [if_neg h0, (r_indexOf hc (Or.inl rfl) h1 ho (by omega)).iff]
    simp (disch := omega) only [u25_0, u25_1, u25_4, u25_5, u25_8, u25_9, u25_11, u25_13, u25_16, u25_17, u25_18, u25_19, u25_21, u25_22, u25_24, u25_26, u25_29, u25_30, u25_32, u25_35, u25_37, u25_38, u25_40, u25_42, u25_43, u25_46, u25_47, u25_50, u25_51, u25_54, u25_56, u25_60, u25_61, u25_63, u25_64, u25_65, u25_68, o_c0, fv_c0_0, fv_c0_1, fv_c0_2, fv_c0_3, fv_c0_4, fv_c0_5, fv_c0_6, fv_c0_7, rf_c0_7, fv_c0_8, rf_c0_8, fv_c0_9, rf_c0_9, fv_c0_10, rf_c0_10, fv_c0_11, rf_c0_11, fv_c0_12, rf_c0_12, fv_c0_13, rf_c0_13, fv_c0_14, rf_c0_14, fv_c0_15, rf_c0_15, fv_c0_16, rf_c0_16, fv_c0_17, rf_c0_17, o_c1, fv_c1_0, fv_c1_1, fv_c1_2, rf_c1_2, o_c4, fv_c4_0, fv_c4_1, fv_c4_2, rf_c4_2, ia_c2, is_c2, ia_c3, is_c3, ia_c5, is_c5, ia_c6, is_c6, ia_c7, is_c7, ia_c8, is_c8, ia_c9, is_c9, ia_c10, is_c10, ia_c11, is_c11, Li_s, Lr_s, Ll_s, On_s, lget, lset, clr_i, clr_r, clr_n, Kc_i, Kc_v, Kc_x, true_and, and_true, List.length_cons, List.length_nil, nlg, isLn, List.all_cons, List.all_nil, Bool.and_true, Bool.not_false, Nat.zero_le, Nat.reduceAdd, Nat.reduceLeDiff, ↓reduceIte, Int.reduceLT, Int.reduceLE, Int.reduceAdd, Int.reduceSub, Int.reduceMul, Int.reduceNeg, Int.reduceToNat, Int.reduceEq, not_true_eq_false, not_false_eq_true, Int.toNat_zero]
    by_cases hx : idx L (D / u % 10) = -1
    · rw [if_neg (by omega)]
      exact key _ _ _ (sgn_none hx h1).symm h0 rfl
    · obtain ⟨s1, s2, s3⟩ := sgn_at hx h1
      rw [if_pos hx]
      simp (disch := omega) only [u25_0, u25_1, u25_4, u25_5, u25_8, u25_9, u25_11, u25_13, u25_16, u25_17, u25_18, u25_19, u25_21, u25_22, u25_24, u25_26, u25_29, u25_30, u25_32, u25_35, u25_37, u25_38, u25_40, u25_42, u25_43, u25_46, u25_47, u25_50, u25_51, u25_54, u25_56, u25_60, u25_61, u25_63, u25_64, u25_65, u25_68, o_c0, fv_c0_0, fv_c0_1, fv_c0_2, fv_c0_3, fv_c0_4, fv_c0_5, fv_c0_6, fv_c0_7, rf_c0_7, fv_c0_8, rf_c0_8, fv_c0_9, rf_c0_9, fv_c0_10, rf_c0_10, fv_c0_11, rf_c0_11, fv_c0_12, rf_c0_12, fv_c0_13, rf_c0_13, fv_c0_14, rf_c0_14, fv_c0_15, rf_c0_15, fv_c0_16, rf_c0_16, fv_c0_17, rf_c0_17, o_c1, fv_c1_0, fv_c1_1, fv_c1_2, rf_c1_2, o_c4, fv_c4_0, fv_c4_1, fv_c4_2, rf_c4_2, ia_c2, is_c2, ia_c3, is_c3, ia_c5, is_c5, ia_c6, is_c6, ia_c7, is_c7, ia_c8, is_c8, ia_c9, is_c9, ia_c10, is_c10, ia_c11, is_c11, s3, Li_s, Lr_s, Ll_s, On_s, lget, lset, clr_i, clr_r, clr_n, Kc_i, Kc_v, Kc_x, true_and, and_true, List.length_cons, List.length_nil, nlg, isLn, List.all_cons, List.all_nil, Bool.and_true, Bool.not_false, Nat.zero_le, Nat.reduceAdd, Nat.reduceLeDiff, ↓reduceIte, Int.reduceLT, Int.reduceLE, Int.reduceAdd, Int.reduceSub, Int.reduceMul, Int.reduceNeg, Int.reduceToNat, Int.reduceEq, not_true_eq_false, not_false_eq_true, Int.toNat_zero]
      exact key _ _ _ rfl h0 rfl
/-- spellOut: the full row is the one that the written row stands for -/
theorem w_spellOut (hc : c < 8) (h1 : RowIs σ c 1 L) (ho : FgOk L) (k : ∀ σ', RowIs σ' c 1 L → RowIs σ' c 4 (ful L) → Fr (frR c 4) σ σ' → Q (.inl none) σ') : Wm (d + 2) 25 [vr c 4, vr c 1] σ Q := by
  have hd := dig_in h1 ho
  have hD : 0 ≤ lng (dig L) ∧ lng (dig L) ≤ 999 := by
    unfold lng
    repeat' split
    all_goals omega
  have f0 : Fr (frR c 4) σ (up σ c 4 2 0) := Fr.wr ⟨rfl, Or.inr (Or.inr ⟨rfl, rfl⟩)⟩
  have g1 : RowIs (up σ c 4 2 0) c 1 L := h1.fr ⟨f0 _ _ _ (by simp only [frR]; omega), fun k => f0 _ _ _ (by simp only [frR]; omega), fun k => f0 _ _ _ (by simp only [frR]; omega)⟩
  have g4 : RowIs (up σ c 4 2 0) c 4 [] := by simp [RowIs, up_at]
  rw [e25]
  simp (disch := omega) only [u25_0, u25_1, u25_4, u25_5, u25_8, u25_9, u25_11, u25_13, u25_16, u25_17, u25_18, u25_19, u25_21, u25_22, u25_24, u25_26, u25_29, u25_30, u25_32, u25_35, u25_37, u25_38, u25_40, u25_42, u25_43, u25_46, u25_47, u25_50, u25_51, u25_54, u25_56, u25_57, u25_60, u25_61, u25_63, u25_64, u25_65, u25_68, o_c0, fv_c0_0, fv_c0_1, fv_c0_2, fv_c0_3, fv_c0_4, fv_c0_5, fv_c0_6, fv_c0_7, rf_c0_7, fv_c0_8, rf_c0_8, fv_c0_9, rf_c0_9, fv_c0_10, rf_c0_10, fv_c0_11, rf_c0_11, fv_c0_12, rf_c0_12, fv_c0_13, rf_c0_13, fv_c0_14, rf_c0_14, fv_c0_15, rf_c0_15, fv_c0_16, rf_c0_16, fv_c0_17, rf_c0_17, o_c1, fv_c1_0, fv_c1_1, fv_c1_2, rf_c1_2, o_c4, fv_c4_0, fv_c4_1, fv_c4_2, rf_c4_2, ia_c2, is_c2, ia_c3, is_c3, ia_c5, is_c5, ia_c6, is_c6, ia_c7, is_c7, ia_c8, is_c8, ia_c9, is_c9, ia_c10, is_c10, ia_c11, is_c11, Li_s, Lr_s, Ll_s, On_s, lget, lset, clr_i, clr_r, clr_n, Kc_i, Kc_v, Kc_x, true_and, and_true, List.length_cons, List.length_nil, nlg, isLn, List.all_cons, List.all_nil, Bool.and_true, Bool.not_false, Nat.zero_le, Nat.reduceAdd, Nat.reduceLeDiff, ↓reduceIte, Int.reduceLT, Int.reduceLE, Int.reduceAdd, Int.reduceSub, Int.reduceMul, Int.reduceNeg, Int.reduceToNat, Int.reduceEq, not_true_eq_false, not_false_eq_true, Int.toNat_zero]
  rw [(r_clear hc (Or.inr rfl)).iff]
  simp (disch := omega) only [u25_0, u25_1, u25_4, u25_5, u25_8, u25_9, u25_11, u25_13, u25_16, u25_17, u25_18, u25_19, u25_21, u25_22, u25_24, u25_26, u25_29, u25_30, u25_32, u25_35, u25_37, u25_38, u25_40, u25_42, u25_43, u25_46, u25_47, u25_50, u25_51, u25_54, u25_56, u25_57, u25_60, u25_61, u25_63, u25_64, u25_65, u25_68, o_c0, fv_c0_0, fv_c0_1, fv_c0_2, fv_c0_3, fv_c0_4, fv_c0_5, fv_c0_6, fv_c0_7, rf_c0_7, fv_c0_8, rf_c0_8, fv_c0_9, rf_c0_9, fv_c0_10, rf_c0_10, fv_c0_11, rf_c0_11, fv_c0_12, rf_c0_12, fv_c0_13, rf_c0_13, fv_c0_14, rf_c0_14, fv_c0_15, rf_c0_15, fv_c0_16, rf_c0_16, fv_c0_17, rf_c0_17, o_c1, fv_c1_0, fv_c1_1, fv_c1_2, rf_c1_2, o_c4, fv_c4_0, fv_c4_1, fv_c4_2, rf_c4_2, ia_c2, is_c2, ia_c3, is_c3, ia_c5, is_c5, ia_c6, is_c6, ia_c7, is_c7, ia_c8, is_c8, ia_c9, is_c9, ia_c10, is_c10, ia_c11, is_c11, Li_s, Lr_s, Ll_s, On_s, lget, lset, clr_i, clr_r, clr_n, Kc_i, Kc_v, Kc_x, true_and, and_true, List.length_cons, List.length_nil, nlg, isLn, List.all_cons, List.all_nil, Bool.and_true, Bool.not_false, Nat.zero_le, Nat.reduceAdd, Nat.reduceLeDiff, ↓reduceIte, Int.reduceLT, Int.reduceLE, Int.reduceAdd, Int.reduceSub, Int.reduceMul, Int.reduceNeg, Int.reduceToNat, Int.reduceEq, not_true_eq_false, not_false_eq_true, Int.toNat_zero]
  rw [(r_longDigits hc (Or.inl rfl) g1 ho).iff]
  simp (disch := omega) only [u25_0, u25_1, u25_4, u25_5, u25_8, u25_9, u25_11, u25_13, u25_16, u25_17, u25_18, u25_19, u25_21, u25_22, u25_24, u25_26, u25_29, u25_30, u25_32, u25_35, u25_37, u25_38, u25_40, u25_42, u25_43, u25_46, u25_47, u25_50, u25_51, u25_54, u25_56, u25_57, u25_60, u25_61, u25_63, u25_64, u25_65, u25_68, o_c0, fv_c0_0, fv_c0_1, fv_c0_2, fv_c0_3, fv_c0_4, fv_c0_5, fv_c0_6, fv_c0_7, rf_c0_7, fv_c0_8, rf_c0_8, fv_c0_9, rf_c0_9, fv_c0_10, rf_c0_10, fv_c0_11, rf_c0_11, fv_c0_12, rf_c0_12, fv_c0_13, rf_c0_13, fv_c0_14, rf_c0_14, fv_c0_15, rf_c0_15, fv_c0_16, rf_c0_16, fv_c0_17, rf_c0_17, o_c1, fv_c1_0, fv_c1_1, fv_c1_2, rf_c1_2, o_c4, fv_c4_0, fv_c4_1, fv_c4_2, rf_c4_2, ia_c2, is_c2, ia_c3, is_c3, ia_c5, is_c5, ia_c6, is_c6, ia_c7, is_c7, ia_c8, is_c8, ia_c9, is_c9, ia_c10, is_c10, ia_c11, is_c11, Li_s, Lr_s, Ll_s, On_s, lget, lset, clr_i, clr_r, clr_n, Kc_i, Kc_v, Kc_x, true_and, and_true, List.length_cons, List.length_nil, nlg, isLn, List.all_cons, List.all_nil, Bool.and_true, Bool.not_false, Nat.zero_le, Nat.reduceAdd, Nat.reduceLeDiff, ↓reduceIte, Int.reduceLT, Int.reduceLE, Int.reduceAdd, Int.reduceSub, Int.reduceMul, Int.reduceNeg, Int.reduceToNat, Int.reduceEq, not_true_eq_false, not_false_eq_true, Int.toNat_zero]
  refine l_sp hc (Or.inl rfl) hD g1 ho g4 (by simp) (fun σ2 y4 y5 a1 a4 af => ?_)
  refine l_sp (u := 10) hc (Or.inr (Or.inl rfl)) hD a1 ho a4 (by have := stp1_len (L := L) (M := []) (n := lng (dig L) / 100 % 10); simp at this; omega) (fun σ3 y4 y5 b1 b4 bf => ?_)
  refine l_sp (u := 1) hc (Or.inr (Or.inr rfl)) hD b1 ho b4 (by have := stp1_len (L := L) (M := []) (n := lng (dig L) / 100 % 10); have := stp1_len (L := L) (M := stp1 L [] (lng (dig L) / 100 % 10)) (n := lng (dig L) / 10 % 10); simp only [List.length_nil] at *; omega) (fun σ4 y4 y5 c1 c4 cf => ?_)
  rw [u25_12]
  simp (disch := omega) only [u25_0, u25_1, u25_4, u25_5, u25_8, u25_9, u25_11, u25_13, u25_16, u25_17, u25_18, u25_19, u25_21, u25_22, u25_24, u25_26, u25_29, u25_30, u25_32, u25_35, u25_37, u25_38, u25_40, u25_42, u25_43, u25_46, u25_47, u25_50, u25_51, u25_54, u25_56, u25_57, u25_60, u25_61, u25_63, u25_64, u25_65, u25_68, o_c0, fv_c0_0, fv_c0_1, fv_c0_2, fv_c0_3, fv_c0_4, fv_c0_5, fv_c0_6, fv_c0_7, rf_c0_7, fv_c0_8, rf_c0_8, fv_c0_9, rf_c0_9, fv_c0_10, rf_c0_10, fv_c0_11, rf_c0_11, fv_c0_12, rf_c0_12, fv_c0_13, rf_c0_13, fv_c0_14, rf_c0_14, fv_c0_15, rf_c0_15, fv_c0_16, rf_c0_16, fv_c0_17, rf_c0_17, o_c1, fv_c1_0, fv_c1_1, fv_c1_2, rf_c1_2, o_c4, fv_c4_0, fv_c4_1, fv_c4_2, rf_c4_2, ia_c2, is_c2, ia_c3, is_c3, ia_c5, is_c5, ia_c6, is_c6, ia_c7, is_c7, ia_c8, is_c8, ia_c9, is_c9, ia_c10, is_c10, ia_c11, is_c11, Li_s, Lr_s, Ll_s, On_s, lget, lset, clr_i, clr_r, clr_n, Kc_i, Kc_v, Kc_x, true_and, and_true, List.length_cons, List.length_nil, nlg, isLn, List.all_cons, List.all_nil, Bool.and_true, Bool.not_false, Nat.zero_le, Nat.reduceAdd, Nat.reduceLeDiff, ↓reduceIte, Int.reduceLT, Int.reduceLE, Int.reduceAdd, Int.reduceSub, Int.reduceMul, Int.reduceNeg, Int.reduceToNat, Int.reduceEq, not_true_eq_false, not_false_eq_true, Int.toNat_zero]
  refine k σ4 c1 ?_ (f0.tr (af.tr (bf.tr cf)))
  have e : lng (dig L) / 1 % 10 = lng (dig L) % 10 := by omega
  rw [e] at c4
  exact c4
end RX
