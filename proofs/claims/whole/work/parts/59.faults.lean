/-! FAULTS, one by one: addIf, pair, isSung, answer; pure lists and the class's side -/
abbrev Flt := Int × Int × Int
/-- a fault more, if b -/
def ad (L : List Flt) (b : Int) (f : Flt) : List Flt := if b = 0 then L else L ++ [f]
theorem ad_len (L : List Flt) (b : Int) (f : Flt) : L.length ≤ (ad L b f).length ∧ (ad L b f).length ≤ L.length + 1 := by
  unfold ad
  split
  · omega
  · simp
/-- from i on, r times -/
def adr (b : Int → Int) (f : Int → Flt) : Nat → Int → List Flt → List Flt
  | 0, _, L => L
  | r + 1, v, L => adr b f r (v + 1) (ad L (b v) (f v))
theorem adr_s (b : Int → Int) (f : Int → Flt) (r : Nat) (v : Int) (L : List Flt) : adr b f (r + 1) v L = adr b f r (v + 1) (ad L (b v) (f v)) := rfl
theorem adr_len (b : Int → Int) (f : Int → Flt) : ∀ (r : Nat) (v : Int) (L : List Flt), L.length ≤ (adr b f r v L).length ∧ (adr b f r v L).length ≤ L.length + r
  | 0, _, L => ⟨Nat.le_refl _, Nat.le_refl _⟩
  | r + 1, v, L => by
    have h1 := ad_len L (b v) (f v)
    have h2 := adr_len b f r (v + 1) (ad L (b v) (f v))
    rw [adr_s]
    omega
theorem getD_snoc {α : Type} (L : List α) (x z : α) (i : Nat) : (L ++ [x]).getD i z = if i < L.length then L.getD i z else if i = L.length then x else z := by
  by_cases h : i < L.length
  · rw [if_pos h]
    simp [List.getD_eq_getElem?_getD, List.getElem?_append_left h]
  · rw [if_neg h]
    by_cases h2 : i = L.length
    · subst h2
      simp [List.getD_eq_getElem?_getD]
    · rw [if_neg h2]
      simp only [List.getD_eq_getElem?_getD]
      rw [List.getElem?_eq_none (by simp; omega)]
      rfl
/-- the faults that stand in the class -/
def FtIs (σ : Sg) (L : List Flt) : Prop := σ 8 15 4 = (L.length : Int) ∧ ∀ t, t < L.length → σ 8 21 t = (L.getD t (0, 0, 0)).1 ∧ σ 8 22 t = (L.getD t (0, 0, 0)).2.1 ∧ σ 8 23 t = (L.getD t (0, 0, 0)).2.2
def frF : Nat → Nat → Nat → Prop := fun g j k => g = 8 ∧ ((j = 15 ∧ k = 4) ∨ (21 ≤ j ∧ j ≤ 23))
section AD
variable {d : Nat} {σ : Sg} {L : List Flt} {b x kd w v s : Int} {c : Nat} {Q : Rs → Sg → Prop}
theorem FtIs.keep {σ' : Sg} (h : FtIs σ L) (hf : Fr (fun g j k => ¬ frF g j k) σ σ') : FtIs σ' L := by
  refine ⟨(hf 8 15 4 (by simp [frF])).trans h.1, fun t ht => ?_⟩
  rw [hf 8 21 t (by simp [frF]), hf 8 22 t (by simp [frF]), hf 8 23 t (by simp [frF])]
  exact h.2 t ht
theorem w_addIf (hL : FtIs σ L) (hn : L.length < 240) (hb : b = 0 ∨ b = 1) (hx : 0 ≤ x ∧ x ≤ 1000) (hk : 0 ≤ kd ∧ kd ≤ 1000) (hw : 0 ≤ w ∧ w ≤ 1000) (k : ∀ σ', FtIs σ' (ad L b (x, kd, w)) → Fr frF σ σ' → Q (.inl none) σ') : Wm d 73 [vr 8 15, vi b, vi x, vi kd, vi w] σ Q := by
  have e1 := hL.1
  rw [e73]
  by_cases h : b = 0
  · subst h
    simp (disch := first | omega | simp) only [u73_0, u73_1, u73_4, u73_5, u73_8, u73_11, u73_14, u73_15, u73_18, u73_19, u73_22, u73_23, u73_24, u73_25, u73_28, u73_29, u73_32, u73_33, u73_34, u73_35, u73_38, u73_39, u73_42, u73_44, u73_45, u73_46i, u73_46r, u73_47, u73_50, u73_51, u73_52, u73_55, o_8_0, fv_8_0_0, fv_8_0_1, fv_8_0_2, fv_8_0_3, fv_8_0_4, rf_8_0_4, o_8_1, fv_8_1_0, fv_8_1_1, rf_8_1_1, o_8_4, fv_8_4_0, fv_8_4_1, fv_8_4_2, fv_8_4_3, fv_8_4_4, fv_8_4_5, fv_8_4_6, rf_8_4_6, o_8_5, fv_8_5_0, fv_8_5_1, fv_8_5_2, fv_8_5_3, fv_8_5_4, rf_8_5_4, fv_8_5_5, rf_8_5_5, o_8_15, fv_8_15_0, fv_8_15_1, fv_8_15_2, fv_8_15_3, fv_8_15_4, rf_8_15_4, o_8_16, fv_8_16_0, fv_8_16_1, fv_8_16_2, fv_8_16_3, fv_8_16_4, rf_8_16_4, fv_8_16_5, rf_8_16_5, ia_8_2, is_8_2, ia_8_6, is_8_6, ia_8_7, is_8_7, ia_8_8, is_8_8, ia_8_9, is_8_9, ia_8_14, is_8_14, ia_8_17, is_8_17, ia_8_18, is_8_18, ia_8_19, is_8_19, ia_8_20, is_8_20, ia_8_21, is_8_21, ia_8_22, is_8_22, ia_8_23, is_8_23, iz_8_12, iz_8_13, aa_3, ar_3, aa_10, ar_10, aa_11, ar_11, ia_10, is_10, ia_11, is_11, Li_s, Lr_s, Ll_s, On_s, lget, lset, clr_i, clr_r, clr_n, Kc_i, Kc_v, Kc_x, true_and, and_true, List.length_cons, List.length_nil, nlg, isLn, List.all_cons, List.all_nil, Bool.and_true, Bool.not_false, Nat.zero_le, Nat.reduceAdd, Nat.reduceLeDiff, ↓reduceIte, Int.reduceLT, Int.reduceLE, Int.reduceAdd, Int.reduceSub, Int.reduceMul, Int.reduceNeg, Int.reduceToNat, Int.reduceEq, not_true_eq_false, not_false_eq_true, Int.toNat_zero, true_or, or_true]
    exact k σ (by simpa [ad] using hL) Fr.rf
  · have hb1 : b = 1 := by omega
    subst hb1
    have hlt : ¬ (240 : Int) ≤ (L.length : Int) := by omega
    have e2 : up σ 8 21 L.length x 8 15 4 = (L.length : Int) := by rw [up_at, if_neg (by omega)]; exact e1
    have e3 : up (up σ 8 21 L.length x) 8 22 L.length kd 8 15 4 = (L.length : Int) := by rw [up_at, if_neg (by omega)]; exact e2
    have e4 : up (up (up σ 8 21 L.length x) 8 22 L.length kd) 8 23 L.length w 8 15 4 = (L.length : Int) := by rw [up_at, if_neg (by omega)]; exact e3
    simp (disch := first | omega | simp) only [u73_0, u73_1, u73_4, u73_5, u73_8, u73_11, u73_14, u73_15, u73_18, u73_19, u73_22, u73_23, u73_24, u73_25, u73_28, u73_29, u73_32, u73_33, u73_34, u73_35, u73_38, u73_39, u73_42, u73_44, u73_45, u73_46i, u73_46r, u73_47, u73_50, u73_51, u73_52, u73_55, o_8_0, fv_8_0_0, fv_8_0_1, fv_8_0_2, fv_8_0_3, fv_8_0_4, rf_8_0_4, o_8_1, fv_8_1_0, fv_8_1_1, rf_8_1_1, o_8_4, fv_8_4_0, fv_8_4_1, fv_8_4_2, fv_8_4_3, fv_8_4_4, fv_8_4_5, fv_8_4_6, rf_8_4_6, o_8_5, fv_8_5_0, fv_8_5_1, fv_8_5_2, fv_8_5_3, fv_8_5_4, rf_8_5_4, fv_8_5_5, rf_8_5_5, o_8_15, fv_8_15_0, fv_8_15_1, fv_8_15_2, fv_8_15_3, fv_8_15_4, rf_8_15_4, o_8_16, fv_8_16_0, fv_8_16_1, fv_8_16_2, fv_8_16_3, fv_8_16_4, rf_8_16_4, fv_8_16_5, rf_8_16_5, ia_8_2, is_8_2, ia_8_6, is_8_6, ia_8_7, is_8_7, ia_8_8, is_8_8, ia_8_9, is_8_9, ia_8_14, is_8_14, ia_8_17, is_8_17, ia_8_18, is_8_18, ia_8_19, is_8_19, ia_8_20, is_8_20, ia_8_21, is_8_21, ia_8_22, is_8_22, ia_8_23, is_8_23, iz_8_12, iz_8_13, aa_3, ar_3, aa_10, ar_10, aa_11, ar_11, ia_10, is_10, ia_11, is_11, e1, hlt, Int.toNat_natCast, e2, e3, e4, Li_s, Lr_s, Ll_s, On_s, lget, lset, clr_i, clr_r, clr_n, Kc_i, Kc_v, Kc_x, true_and, and_true, List.length_cons, List.length_nil, nlg, isLn, List.all_cons, List.all_nil, Bool.and_true, Bool.not_false, Nat.zero_le, Nat.reduceAdd, Nat.reduceLeDiff, ↓reduceIte, Int.reduceLT, Int.reduceLE, Int.reduceAdd, Int.reduceSub, Int.reduceMul, Int.reduceNeg, Int.reduceToNat, Int.reduceEq, not_true_eq_false, not_false_eq_true, Int.toNat_zero, true_or, or_true]
    refine k _ ⟨?_, fun t ht => ?_⟩ (Fr.tr (Fr.tr (Fr.tr (Fr.wr ⟨rfl, by omega⟩) (Fr.wr ⟨rfl, by omega⟩)) (Fr.wr ⟨rfl, by omega⟩)) (Fr.wr ⟨rfl, by omega⟩))
    · rw [up_at, if_pos ⟨rfl, rfl, rfl⟩]
      simp [ad]
    · have ht2 : t < L.length + 1 := by simpa [ad] using ht
      have ea : ad L 1 (x, kd, w) = L ++ [(x, kd, w)] := by simp [ad]
      rw [ea, getD_snoc]
      by_cases h2 : t = L.length
      · subst h2
        simp [up_at]
      · have := hL.2 t (by omega)
        rw [if_pos (by omega)]
        simp only [up_at]
        simp [h2, this]
theorem r_pair (hv : -1000 ≤ v ∧ v ≤ 1000) (hw : -1000 ≤ w ∧ w ≤ 1000) : Rn d 72 [vi v, vi w] σ (.inl (some (vi (4 * v + w)))) σ := by
  refine Rn.of ?_
  rw [e72]
  simp (disch := first | omega | simp) only [u72_0, u72_1, u72_2, u72_3, u72_4, u72_5, Li_s, Lr_s, Ll_s, On_s, lget, lset, clr_i, clr_r, clr_n, Kc_i, Kc_v, Kc_x, true_and, and_true, List.length_cons, List.length_nil, nlg, isLn, List.all_cons, List.all_nil, Bool.and_true, Bool.not_false, Nat.zero_le, Nat.reduceAdd, Nat.reduceLeDiff, ↓reduceIte, Int.reduceLT, Int.reduceLE, Int.reduceAdd, Int.reduceSub, Int.reduceMul, Int.reduceNeg, Int.reduceToNat, Int.reduceEq, not_true_eq_false, not_false_eq_true, Int.toNat_zero, true_or, or_true]
  first | done | rfl | exact fi rfl
theorem l_sung (hc : c < 8) (hs : sIn (sO σ c (-1))) (hx : 0 ≤ s ∧ s ≤ 11) : ∀ (r : Nat) (v : Int), 0 ≤ v → v + r = 4 → (Wx (d + 1) 71 2 [some (vr c 0), some (vi s), some (vi v)] [] σ Q ↔ Q (.inl (some (vi (anR (fun v => if sO σ c (-1) v % 12 = s then 1 else 0) r v)))) σ) := by
  intro r
  induction r with
  | zero =>
    intro v h0 h1
    rw [u71_2]
    simp (disch := first | omega | simp) only [u71_0, u71_1, u71_3, u71_4, u71_7, u71_8, u71_9, u71_10, u71_13, u71_15, u71_16, u71_17, u71_20, u71_21, u71_22, u71_25, u71_28, u71_29, o_c0, fv_c0_0, fv_c0_1, fv_c0_2, fv_c0_3, fv_c0_4, fv_c0_5, fv_c0_6, fv_c0_7, rf_c0_7, fv_c0_8, rf_c0_8, fv_c0_9, rf_c0_9, fv_c0_10, rf_c0_10, fv_c0_11, rf_c0_11, fv_c0_12, rf_c0_12, fv_c0_13, rf_c0_13, fv_c0_14, rf_c0_14, fv_c0_15, rf_c0_15, fv_c0_16, rf_c0_16, fv_c0_17, rf_c0_17, o_c1, fv_c1_0, fv_c1_1, fv_c1_2, rf_c1_2, o_c4, fv_c4_0, fv_c4_1, fv_c4_2, rf_c4_2, ia_c2, is_c2, ia_c3, is_c3, ia_c5, is_c5, ia_c6, is_c6, ia_c7, is_c7, ia_c8, is_c8, ia_c9, is_c9, ia_c10, is_c10, ia_c11, is_c11, Li_s, Lr_s, Ll_s, On_s, lget, lset, clr_i, clr_r, clr_n, Kc_i, Kc_v, Kc_x, true_and, and_true, List.length_cons, List.length_nil, nlg, isLn, List.all_cons, List.all_nil, Bool.and_true, Bool.not_false, Nat.zero_le, Nat.reduceAdd, Nat.reduceLeDiff, ↓reduceIte, Int.reduceLT, Int.reduceLE, Int.reduceAdd, Int.reduceSub, Int.reduceMul, Int.reduceNeg, Int.reduceToNat, Int.reduceEq, not_true_eq_false, not_false_eq_true, Int.toNat_zero, true_or, or_true]
    rw [if_pos (by omega)]
    rfl
  | succ r ih =>
    intro v h0 h1
    have h4 := hs v h0 (by omega)
    have e : Int.tmod (sO σ c (-1) v) 12 = sO σ c (-1) v % 12 := Int.tmod_eq_emod_of_nonneg h4.1
    rw [u71_2]
    simp (disch := first | omega | simp) only [u71_0, u71_1, u71_3, u71_4, u71_7, u71_8, u71_9, u71_10, u71_13, u71_15, u71_16, u71_17, u71_20, u71_21, u71_22, u71_25, u71_28, u71_29, o_c0, fv_c0_0, fv_c0_1, fv_c0_2, fv_c0_3, fv_c0_4, fv_c0_5, fv_c0_6, fv_c0_7, rf_c0_7, fv_c0_8, rf_c0_8, fv_c0_9, rf_c0_9, fv_c0_10, rf_c0_10, fv_c0_11, rf_c0_11, fv_c0_12, rf_c0_12, fv_c0_13, rf_c0_13, fv_c0_14, rf_c0_14, fv_c0_15, rf_c0_15, fv_c0_16, rf_c0_16, fv_c0_17, rf_c0_17, o_c1, fv_c1_0, fv_c1_1, fv_c1_2, rf_c1_2, o_c4, fv_c4_0, fv_c4_1, fv_c4_2, rf_c4_2, ia_c2, is_c2, ia_c3, is_c3, ia_c5, is_c5, ia_c6, is_c6, ia_c7, is_c7, ia_c8, is_c8, ia_c9, is_c9, ia_c10, is_c10, ia_c11, is_c11, Li_s, Lr_s, Ll_s, On_s, lget, lset, clr_i, clr_r, clr_n, Kc_i, Kc_v, Kc_x, true_and, and_true, List.length_cons, List.length_nil, nlg, isLn, List.all_cons, List.all_nil, Bool.and_true, Bool.not_false, Nat.zero_le, Nat.reduceAdd, Nat.reduceLeDiff, ↓reduceIte, Int.reduceLT, Int.reduceLE, Int.reduceAdd, Int.reduceSub, Int.reduceMul, Int.reduceNeg, Int.reduceToNat, Int.reduceEq, not_true_eq_false, not_false_eq_true, Int.toNat_zero, true_or, or_true]
    rw [if_neg (by omega), (r_soundOf hc (by omega) (by omega)).iff, anR_s]
    simp (disch := first | omega | simp) only [u71_0, u71_1, u71_3, u71_4, u71_7, u71_8, u71_9, u71_10, u71_13, u71_15, u71_16, u71_17, u71_20, u71_21, u71_22, u71_25, u71_28, u71_29, o_c0, fv_c0_0, fv_c0_1, fv_c0_2, fv_c0_3, fv_c0_4, fv_c0_5, fv_c0_6, fv_c0_7, rf_c0_7, fv_c0_8, rf_c0_8, fv_c0_9, rf_c0_9, fv_c0_10, rf_c0_10, fv_c0_11, rf_c0_11, fv_c0_12, rf_c0_12, fv_c0_13, rf_c0_13, fv_c0_14, rf_c0_14, fv_c0_15, rf_c0_15, fv_c0_16, rf_c0_16, fv_c0_17, rf_c0_17, o_c1, fv_c1_0, fv_c1_1, fv_c1_2, rf_c1_2, o_c4, fv_c4_0, fv_c4_1, fv_c4_2, rf_c4_2, ia_c2, is_c2, ia_c3, is_c3, ia_c5, is_c5, ia_c6, is_c6, ia_c7, is_c7, ia_c8, is_c8, ia_c9, is_c9, ia_c10, is_c10, ia_c11, is_c11, e, Li_s, Lr_s, Ll_s, On_s, lget, lset, clr_i, clr_r, clr_n, Kc_i, Kc_v, Kc_x, true_and, and_true, List.length_cons, List.length_nil, nlg, isLn, List.all_cons, List.all_nil, Bool.and_true, Bool.not_false, Nat.zero_le, Nat.reduceAdd, Nat.reduceLeDiff, ↓reduceIte, Int.reduceLT, Int.reduceLE, Int.reduceAdd, Int.reduceSub, Int.reduceMul, Int.reduceNeg, Int.reduceToNat, Int.reduceEq, not_true_eq_false, not_false_eq_true, Int.toNat_zero, true_or, or_true]
    by_cases h : sO σ c (-1) v % 12 = s
    · rw [if_neg (fun q => q h), if_neg (by rw [if_pos h]; omega)]
    · rw [if_pos h, if_pos (by rw [if_neg h]), ih (v + 1) (by omega) (by omega)]
/-- does a voice sing the class s -/
def sng (w : Int → Int) (s : Int) : Int := anR (fun v => if w v % 12 = s then 1 else 0) 4 0
theorem r_sung (hc : c < 8) (hs : sIn (sO σ c (-1))) (hx : 0 ≤ s ∧ s ≤ 11) : Rn (d + 1) 71 [vr c 0, vi s] σ (.inl (some (vi (sng (sO σ c (-1)) s)))) σ := by
  refine Rn.of ?_
  rw [e71]
  simp (disch := first | omega | simp) only [u71_0, u71_1, u71_3, u71_4, u71_7, u71_8, u71_9, u71_10, u71_13, u71_15, u71_16, u71_17, u71_20, u71_21, u71_22, u71_25, u71_28, u71_29, Li_s, Lr_s, Ll_s, On_s, lget, lset, clr_i, clr_r, clr_n, Kc_i, Kc_v, Kc_x, true_and, and_true, List.length_cons, List.length_nil, nlg, isLn, List.all_cons, List.all_nil, Bool.and_true, Bool.not_false, Nat.zero_le, Nat.reduceAdd, Nat.reduceLeDiff, ↓reduceIte, Int.reduceLT, Int.reduceLE, Int.reduceAdd, Int.reduceSub, Int.reduceMul, Int.reduceNeg, Int.reduceToNat, Int.reduceEq, not_true_eq_false, not_false_eq_true, Int.toNat_zero, true_or, or_true]
  exact (l_sung hc hs hx 4 0 (by omega) (by omega)).mpr ⟨rfl, rfl⟩
def ans (L : List Flt) (t : Nat) (x : Int) : Int := if x = 0 then (L.getD t (0, 0, 0)).1 else if x = 1 then (L.getD t (0, 0, 0)).2.1 else (L.getD t (0, 0, 0)).2.2
theorem r_answer (hL : FtIs σ L) {t : Nat} (ht : t < L.length) (hn : L.length ≤ 240) (hx : 0 ≤ x ∧ x ≤ 2) : Rn d 67 [vr 8 15, vi (t : Int), vi x] σ (.inl (some (vi (ans L t x)))) σ := by
  obtain ⟨e1, e2, e3⟩ := hL.2 t ht
  refine Rn.of ?_
  rw [e67]
  have : x = 0 ∨ x = 1 ∨ x = 2 := by omega
  rcases this with h | h | h
  · subst h
    rw [u67_0]
    simp only [Li_s, lget]
    rw [u67_1 (t := 28) (by decide) (by decide)]
    simp (disch := first | omega | simp) only [u67_28, u67_29, u67_32, u67_33, u67_34, u67_35, u67_36, u67_39, u67_40, u67_41, u67_42, u67_43, u67_46, u67_47, u67_48, o_8_0, fv_8_0_0, fv_8_0_1, fv_8_0_2, fv_8_0_3, fv_8_0_4, rf_8_0_4, o_8_1, fv_8_1_0, fv_8_1_1, rf_8_1_1, o_8_4, fv_8_4_0, fv_8_4_1, fv_8_4_2, fv_8_4_3, fv_8_4_4, fv_8_4_5, fv_8_4_6, rf_8_4_6, o_8_5, fv_8_5_0, fv_8_5_1, fv_8_5_2, fv_8_5_3, fv_8_5_4, rf_8_5_4, fv_8_5_5, rf_8_5_5, o_8_15, fv_8_15_0, fv_8_15_1, fv_8_15_2, fv_8_15_3, fv_8_15_4, rf_8_15_4, o_8_16, fv_8_16_0, fv_8_16_1, fv_8_16_2, fv_8_16_3, fv_8_16_4, rf_8_16_4, fv_8_16_5, rf_8_16_5, ia_8_2, is_8_2, ia_8_6, is_8_6, ia_8_7, is_8_7, ia_8_8, is_8_8, ia_8_9, is_8_9, ia_8_14, is_8_14, ia_8_17, is_8_17, ia_8_18, is_8_18, ia_8_19, is_8_19, ia_8_20, is_8_20, ia_8_21, is_8_21, ia_8_22, is_8_22, ia_8_23, is_8_23, iz_8_12, iz_8_13, aa_3, ar_3, aa_10, ar_10, aa_11, ar_11, ia_10, is_10, ia_11, is_11, e1, Int.toNat_natCast, Li_s, Lr_s, Ll_s, On_s, lget, lset, clr_i, clr_r, clr_n, Kc_i, Kc_v, Kc_x, true_and, and_true, List.length_cons, List.length_nil, nlg, isLn, List.all_cons, List.all_nil, Bool.and_true, Bool.not_false, Nat.zero_le, Nat.reduceAdd, Nat.reduceLeDiff, ↓reduceIte, Int.reduceLT, Int.reduceLE, Int.reduceAdd, Int.reduceSub, Int.reduceMul, Int.reduceNeg, Int.reduceToNat, Int.reduceEq, not_true_eq_false, not_false_eq_true, Int.toNat_zero, true_or, or_true]
    rfl
  · subst h
    rw [u67_0]
    simp only [Li_s, lget]
    rw [u67_1 (t := 35) (by decide) (by decide)]
    simp (disch := first | omega | simp) only [u67_28, u67_29, u67_32, u67_33, u67_34, u67_35, u67_36, u67_39, u67_40, u67_41, u67_42, u67_43, u67_46, u67_47, u67_48, o_8_0, fv_8_0_0, fv_8_0_1, fv_8_0_2, fv_8_0_3, fv_8_0_4, rf_8_0_4, o_8_1, fv_8_1_0, fv_8_1_1, rf_8_1_1, o_8_4, fv_8_4_0, fv_8_4_1, fv_8_4_2, fv_8_4_3, fv_8_4_4, fv_8_4_5, fv_8_4_6, rf_8_4_6, o_8_5, fv_8_5_0, fv_8_5_1, fv_8_5_2, fv_8_5_3, fv_8_5_4, rf_8_5_4, fv_8_5_5, rf_8_5_5, o_8_15, fv_8_15_0, fv_8_15_1, fv_8_15_2, fv_8_15_3, fv_8_15_4, rf_8_15_4, o_8_16, fv_8_16_0, fv_8_16_1, fv_8_16_2, fv_8_16_3, fv_8_16_4, rf_8_16_4, fv_8_16_5, rf_8_16_5, ia_8_2, is_8_2, ia_8_6, is_8_6, ia_8_7, is_8_7, ia_8_8, is_8_8, ia_8_9, is_8_9, ia_8_14, is_8_14, ia_8_17, is_8_17, ia_8_18, is_8_18, ia_8_19, is_8_19, ia_8_20, is_8_20, ia_8_21, is_8_21, ia_8_22, is_8_22, ia_8_23, is_8_23, iz_8_12, iz_8_13, aa_3, ar_3, aa_10, ar_10, aa_11, ar_11, ia_10, is_10, ia_11, is_11, e2, Int.toNat_natCast, Li_s, Lr_s, Ll_s, On_s, lget, lset, clr_i, clr_r, clr_n, Kc_i, Kc_v, Kc_x, true_and, and_true, List.length_cons, List.length_nil, nlg, isLn, List.all_cons, List.all_nil, Bool.and_true, Bool.not_false, Nat.zero_le, Nat.reduceAdd, Nat.reduceLeDiff, ↓reduceIte, Int.reduceLT, Int.reduceLE, Int.reduceAdd, Int.reduceSub, Int.reduceMul, Int.reduceNeg, Int.reduceToNat, Int.reduceEq, not_true_eq_false, not_false_eq_true, Int.toNat_zero, true_or, or_true]
    rfl
  · subst h
    rw [u67_0]
    simp only [Li_s, lget]
    rw [u67_1 (t := 42) (by decide) (by decide)]
    simp (disch := first | omega | simp) only [u67_28, u67_29, u67_32, u67_33, u67_34, u67_35, u67_36, u67_39, u67_40, u67_41, u67_42, u67_43, u67_46, u67_47, u67_48, o_8_0, fv_8_0_0, fv_8_0_1, fv_8_0_2, fv_8_0_3, fv_8_0_4, rf_8_0_4, o_8_1, fv_8_1_0, fv_8_1_1, rf_8_1_1, o_8_4, fv_8_4_0, fv_8_4_1, fv_8_4_2, fv_8_4_3, fv_8_4_4, fv_8_4_5, fv_8_4_6, rf_8_4_6, o_8_5, fv_8_5_0, fv_8_5_1, fv_8_5_2, fv_8_5_3, fv_8_5_4, rf_8_5_4, fv_8_5_5, rf_8_5_5, o_8_15, fv_8_15_0, fv_8_15_1, fv_8_15_2, fv_8_15_3, fv_8_15_4, rf_8_15_4, o_8_16, fv_8_16_0, fv_8_16_1, fv_8_16_2, fv_8_16_3, fv_8_16_4, rf_8_16_4, fv_8_16_5, rf_8_16_5, ia_8_2, is_8_2, ia_8_6, is_8_6, ia_8_7, is_8_7, ia_8_8, is_8_8, ia_8_9, is_8_9, ia_8_14, is_8_14, ia_8_17, is_8_17, ia_8_18, is_8_18, ia_8_19, is_8_19, ia_8_20, is_8_20, ia_8_21, is_8_21, ia_8_22, is_8_22, ia_8_23, is_8_23, iz_8_12, iz_8_13, aa_3, ar_3, aa_10, ar_10, aa_11, ar_11, ia_10, is_10, ia_11, is_11, e3, Int.toNat_natCast, Li_s, Lr_s, Ll_s, On_s, lget, lset, clr_i, clr_r, clr_n, Kc_i, Kc_v, Kc_x, true_and, and_true, List.length_cons, List.length_nil, nlg, isLn, List.all_cons, List.all_nil, Bool.and_true, Bool.not_false, Nat.zero_le, Nat.reduceAdd, Nat.reduceLeDiff, ↓reduceIte, Int.reduceLT, Int.reduceLE, Int.reduceAdd, Int.reduceSub, Int.reduceMul, Int.reduceNeg, Int.reduceToNat, Int.reduceEq, not_true_eq_false, not_false_eq_true, Int.toNat_zero, true_or, or_true]
    rfl
end AD
