/-! THE STATE: what a FiguredBass holds, as plain values, and that the class holds it -/
/-- a chord: its bass's letter, alteration and sound (-1: none), its figures, the pupil's sounds -/
abbrev Cho := Int × Int × Int × Fg × (Int → Int)
abbrev chT (f : Int) (x : Cho) : List (Int × Int) := tns f x.1 x.2.1 (ful x.2.2.2.1)
abbrev chP (f : Int) (x : Cho) : Pl := plc (chT f x) (opt x.2.2.2.1) x.2.2.1
def whC (f : Int) (x : Cho) : Int := if x.2.2.1 = -1 then 0 else whl (chT f x)
/-- what a chord with a bass holds beside -/
def ChB (σ : Sg) (c : Nat) (f : Int) (x : Cho) : Prop := (36 ≤ x.2.2.1 ∧ x.2.2.1 ≤ 60) ∧ (0 ≤ x.1 ∧ x.1 ≤ 6) ∧ (-1 ≤ x.2.1 ∧ x.2.1 ≤ 1) ∧ σ c 0 7 = x.1 ∧ σ c 0 8 = x.2.1 ∧ ChD σ c f x.1 x.2.1 x.2.2.2.1 ∧ (σ c 0 17 = 0 ∨ (σ c 0 17 = 1 ∧ PlIs σ c (chP f x)))
def ChI (σ : Sg) (c : Nat) (f mi : Int) (x : Cho) : Prop := RowIs σ c 1 x.2.2.2.1 ∧ FgOk x.2.2.2.1 ∧ σ c 0 9 = x.2.2.1 ∧ (¬ x.2.2.1 = -1 → σ c 0 12 = led f mi) ∧ (∀ v : Int, 0 ≤ v → v ≤ 2 → σ c 11 v.toNat = x.2.2.2.2 v ∧ 0 ≤ x.2.2.2.2 v ∧ x.2.2.2.2 v ≤ 127) ∧ ((x.2.2.1 = -1 ∧ σ c 0 15 = 0 ∧ σ c 0 17 = 0) ∨ ChB σ c f x)
/-- what is laid out: the placements' numbers -/
def LdI (σ : Sg) (f : Int) (n : Nat) (C : Nat → Cho) : Option (Nat → Int) → Prop
  | none => σ 8 4 6 = 0
  | some w => σ 8 4 6 = 1 ∧ ∀ i, i < n → σ 8 14 i = w i ∧ σ i 0 17 = 1 ∧ 0 ≤ w i ∧ w i < (chP f (C i)).length
def CI (σ : Sg) (f mi : Int) (n : Nat) (C : Nat → Cho) (W : Option (Nat → Int)) (L : List Flt) : Prop := (-7 ≤ f ∧ f ≤ 7) ∧ (mi = 0 ∨ mi = 1) ∧ (1 ≤ n ∧ n ≤ 8) ∧ KeyIs σ f mi ∧ σ 8 0 4 = (n : Int) ∧ (∀ c, c < 8 → ChI σ c f mi (C c)) ∧ (FtIs σ L ∧ L.length ≤ 240) ∧ LdI σ f n C W
def upc (C : Nat → Cho) (c : Nat) (x : Cho) : Nat → Cho := fun i => if i = c then x else C i
section SI
variable {d : Nat} {σ σ' : Sg} {c : Nat} {f mi : Int} {n : Nat} {C : Nat → Cho} {W : Option (Nat → Int)} {L : List Flt} {x : Cho} {a e : Int} {Q : Rs → Sg → Prop}
theorem PlIs.fr {P : Pl} (h : PlIs σ c P) (e : ∀ j k, σ' c j k = σ c j k) : PlIs σ' c P := ⟨(e _ _).trans h.1, fun i hi => by rw [e, e, e]; exact h.2 i hi⟩
theorem ChT.fr {T : List (Int × Int)} (h : ChT σ c T) (e : ∀ j k, σ' c j k = σ c j k) : ChT σ' c T := ⟨(e _ _).trans h.1, fun i hi => by rw [e, e]; exact h.2.1 i hi, fun k hk => (e _ _).trans (h.2.2.1 k hk), (e _ _).trans h.2.2.2⟩
theorem ChD.fr {bl ba : Int} {M : Fg} (h : ChD σ c f bl ba M) (e : ∀ j k, σ' c j k = σ c j k) : ChD σ' c f bl ba M := ⟨h.1.fr ⟨e _ _, fun k => e _ _, fun k => e _ _⟩, h.2.1.fr e, (e _ _).trans h.2.2.1, (e _ _).trans h.2.2.2.1, (e _ _).trans h.2.2.2.2⟩
theorem ChB.fr (h : ChB σ c f x) (e : ∀ j k, σ' c j k = σ c j k) : ChB σ' c f x := by
  obtain ⟨h1, h2, h3, h4, h5, h6, h7⟩ := h
  refine ⟨h1, h2, h3, (e _ _).trans h4, (e _ _).trans h5, h6.fr e, ?_⟩
  rcases h7 with h7 | h7
  · exact Or.inl ((e _ _).trans h7)
  · exact Or.inr ⟨(e _ _).trans h7.1, h7.2.fr e⟩
theorem ChI.fr (h : ChI σ c f mi x) (e : ∀ j k, σ' c j k = σ c j k) : ChI σ' c f mi x := by
  obtain ⟨h1, h2, h3, h4, h5, h6⟩ := h
  refine ⟨h1.fr ⟨e _ _, fun k => e _ _, fun k => e _ _⟩, h2, (e _ _).trans h3, fun hn => (e _ _).trans (h4 hn), fun v v0 v1 => by rw [e]; exact h5 v v0 v1, ?_⟩
  rcases h6 with h6 | h6
  · exact Or.inl ⟨h6.1, (e _ _).trans h6.2.1, (e _ _).trans h6.2.2⟩
  · exact Or.inr (h6.fr e)
theorem KeyIs.fr (h : KeyIs σ f mi) (e2 : ∀ k, σ' 8 2 k = σ 8 2 k) (e1 : σ' 8 1 1 = σ 8 1 1) : KeyIs σ' f mi := ⟨fun l hl => (e2 l).trans (h.1 l hl), e1.trans h.2⟩
theorem ChI.whole (h : ChI σ c f mi x) : σ c 0 15 = whC f x := by
  unfold whC
  rcases h.2.2.2.2.2 with h6 | h6
  · rw [if_pos h6.1]
    exact h6.2.1
  · rw [if_neg (by have := h6.1; omega)]
    exact h6.2.2.2.2.2.1.2.1.2.2.2
theorem whC_in (f : Int) (x : Cho) : whC f x = 0 ∨ whC f x = 1 := by
  unfold whC
  split
  · exact Or.inl rfl
  · exact whl_in _
/-- a whole chord has a bass -/
theorem ChI.bas (h : ChI σ c f mi x) (hw : ¬ whC f x = 0) : ChB σ c f x := by
  rcases h.2.2.2.2.2 with h6 | h6
  · exact absurd (by unfold whC; rw [if_pos h6.1]) hw
  · exact h6
theorem r_ckC (ha : 0 ≤ a ∧ a < e) (he : e ≤ 1000) : Rn d 13 [vr 8 0, vi a, vi e] σ (.inl none) σ := by
  refine Rn.of ?_
  rw [e13]
  simp (disch := first | omega | simp) only [u13_0, u13_1, u13_4, u13_5, u13_6, u13_9, u13_12i, u13_12r, u13_19, o_8_0, fv_8_0_0, fv_8_0_1, fv_8_0_2, fv_8_0_3, fv_8_0_4, rf_8_0_4, o_8_1, fv_8_1_0, fv_8_1_1, rf_8_1_1, o_8_4, fv_8_4_0, fv_8_4_1, fv_8_4_2, fv_8_4_3, fv_8_4_4, fv_8_4_5, fv_8_4_6, rf_8_4_6, o_8_5, fv_8_5_0, fv_8_5_1, fv_8_5_2, fv_8_5_3, fv_8_5_4, rf_8_5_4, fv_8_5_5, rf_8_5_5, o_8_15, fv_8_15_0, fv_8_15_1, fv_8_15_2, fv_8_15_3, fv_8_15_4, rf_8_15_4, o_8_16, fv_8_16_0, fv_8_16_1, fv_8_16_2, fv_8_16_3, fv_8_16_4, rf_8_16_4, fv_8_16_5, rf_8_16_5, ia_8_2, is_8_2, ia_8_6, is_8_6, ia_8_7, is_8_7, ia_8_8, is_8_8, ia_8_9, is_8_9, ia_8_14, is_8_14, ia_8_17, is_8_17, ia_8_18, is_8_18, ia_8_19, is_8_19, ia_8_20, is_8_20, ia_8_21, is_8_21, ia_8_22, is_8_22, ia_8_23, is_8_23, iz_8_12, iz_8_13, aa_3, ar_3, aa_10, ar_10, aa_11, ar_11, ia_10, is_10, ia_11, is_11, Li_s, Lr_s, Ll_s, On_s, lget, lset, clr_i, clr_r, clr_n, Kc_i, Kc_v, Kc_x, true_and, and_true, List.length_cons, List.length_nil, nlg, isLn, List.all_cons, List.all_nil, Bool.and_true, Bool.not_false, Nat.zero_le, Nat.reduceAdd, Nat.reduceLeDiff, ↓reduceIte, Int.reduceLT, Int.reduceLE, Int.reduceAdd, Int.reduceSub, Int.reduceMul, Int.reduceNeg, Int.reduceToNat, Int.reduceEq, not_true_eq_false, not_false_eq_true, Int.toNat_zero, true_or, or_true]
  rw [if_neg (by omega), if_pos (by omega)]
  trivial
theorem r_ckC1 (ha : a < 0 ∨ e ≤ a) (hr : -2147483648 ≤ a ∧ a ≤ 2147483647) (he : 0 ≤ e ∧ e ≤ 1000) : Rn d 13 [vr 8 0, vi a, vi e] σ (.inr 1) σ := by
  refine Rn.of ?_
  rw [e13]
  simp (disch := first | omega | simp) only [u13_0, u13_1, u13_4, u13_5, u13_6, u13_9, u13_12i, u13_12r, u13_19, o_8_0, fv_8_0_0, fv_8_0_1, fv_8_0_2, fv_8_0_3, fv_8_0_4, rf_8_0_4, o_8_1, fv_8_1_0, fv_8_1_1, rf_8_1_1, o_8_4, fv_8_4_0, fv_8_4_1, fv_8_4_2, fv_8_4_3, fv_8_4_4, fv_8_4_5, fv_8_4_6, rf_8_4_6, o_8_5, fv_8_5_0, fv_8_5_1, fv_8_5_2, fv_8_5_3, fv_8_5_4, rf_8_5_4, fv_8_5_5, rf_8_5_5, o_8_15, fv_8_15_0, fv_8_15_1, fv_8_15_2, fv_8_15_3, fv_8_15_4, rf_8_15_4, o_8_16, fv_8_16_0, fv_8_16_1, fv_8_16_2, fv_8_16_3, fv_8_16_4, rf_8_16_4, fv_8_16_5, rf_8_16_5, ia_8_2, is_8_2, ia_8_6, is_8_6, ia_8_7, is_8_7, ia_8_8, is_8_8, ia_8_9, is_8_9, ia_8_14, is_8_14, ia_8_17, is_8_17, ia_8_18, is_8_18, ia_8_19, is_8_19, ia_8_20, is_8_20, ia_8_21, is_8_21, ia_8_22, is_8_22, ia_8_23, is_8_23, iz_8_12, iz_8_13, aa_3, ar_3, aa_10, ar_10, aa_11, ar_11, ia_10, is_10, ia_11, is_11, Li_s, Lr_s, Ll_s, On_s, lget, lset, clr_i, clr_r, clr_n, Kc_i, Kc_v, Kc_x, true_and, and_true, List.length_cons, List.length_nil, nlg, isLn, List.all_cons, List.all_nil, Bool.and_true, Bool.not_false, Nat.zero_le, Nat.reduceAdd, Nat.reduceLeDiff, ↓reduceIte, Int.reduceLT, Int.reduceLE, Int.reduceAdd, Int.reduceSub, Int.reduceMul, Int.reduceNeg, Int.reduceToNat, Int.reduceEq, not_true_eq_false, not_false_eq_true, Int.toNat_zero, true_or, or_true]
  by_cases h : a < 0
  · rw [if_pos h]
    trivial
  · rw [if_neg h, if_neg (by omega)]
    trivial
theorem r_ckV (ha : 0 ≤ a ∧ a < e) (he : e ≤ 1000) : Rn d 14 [vr 8 0, vi a, vi e] σ (.inl none) σ := by
  refine Rn.of ?_
  rw [e14]
  simp (disch := first | omega | simp) only [u14_0, u14_1, u14_4, u14_5, u14_6, u14_9, u14_12i, u14_12r, u14_19, o_8_0, fv_8_0_0, fv_8_0_1, fv_8_0_2, fv_8_0_3, fv_8_0_4, rf_8_0_4, o_8_1, fv_8_1_0, fv_8_1_1, rf_8_1_1, o_8_4, fv_8_4_0, fv_8_4_1, fv_8_4_2, fv_8_4_3, fv_8_4_4, fv_8_4_5, fv_8_4_6, rf_8_4_6, o_8_5, fv_8_5_0, fv_8_5_1, fv_8_5_2, fv_8_5_3, fv_8_5_4, rf_8_5_4, fv_8_5_5, rf_8_5_5, o_8_15, fv_8_15_0, fv_8_15_1, fv_8_15_2, fv_8_15_3, fv_8_15_4, rf_8_15_4, o_8_16, fv_8_16_0, fv_8_16_1, fv_8_16_2, fv_8_16_3, fv_8_16_4, rf_8_16_4, fv_8_16_5, rf_8_16_5, ia_8_2, is_8_2, ia_8_6, is_8_6, ia_8_7, is_8_7, ia_8_8, is_8_8, ia_8_9, is_8_9, ia_8_14, is_8_14, ia_8_17, is_8_17, ia_8_18, is_8_18, ia_8_19, is_8_19, ia_8_20, is_8_20, ia_8_21, is_8_21, ia_8_22, is_8_22, ia_8_23, is_8_23, iz_8_12, iz_8_13, aa_3, ar_3, aa_10, ar_10, aa_11, ar_11, ia_10, is_10, ia_11, is_11, Li_s, Lr_s, Ll_s, On_s, lget, lset, clr_i, clr_r, clr_n, Kc_i, Kc_v, Kc_x, true_and, and_true, List.length_cons, List.length_nil, nlg, isLn, List.all_cons, List.all_nil, Bool.and_true, Bool.not_false, Nat.zero_le, Nat.reduceAdd, Nat.reduceLeDiff, ↓reduceIte, Int.reduceLT, Int.reduceLE, Int.reduceAdd, Int.reduceSub, Int.reduceMul, Int.reduceNeg, Int.reduceToNat, Int.reduceEq, not_true_eq_false, not_false_eq_true, Int.toNat_zero, true_or, or_true]
  rw [if_neg (by omega), if_pos (by omega)]
  trivial
theorem r_ckV1 (ha : a < 0 ∨ e ≤ a) (hr : -2147483648 ≤ a ∧ a ≤ 2147483647) (he : 0 ≤ e ∧ e ≤ 1000) : Rn d 14 [vr 8 0, vi a, vi e] σ (.inr 1) σ := by
  refine Rn.of ?_
  rw [e14]
  simp (disch := first | omega | simp) only [u14_0, u14_1, u14_4, u14_5, u14_6, u14_9, u14_12i, u14_12r, u14_19, o_8_0, fv_8_0_0, fv_8_0_1, fv_8_0_2, fv_8_0_3, fv_8_0_4, rf_8_0_4, o_8_1, fv_8_1_0, fv_8_1_1, rf_8_1_1, o_8_4, fv_8_4_0, fv_8_4_1, fv_8_4_2, fv_8_4_3, fv_8_4_4, fv_8_4_5, fv_8_4_6, rf_8_4_6, o_8_5, fv_8_5_0, fv_8_5_1, fv_8_5_2, fv_8_5_3, fv_8_5_4, rf_8_5_4, fv_8_5_5, rf_8_5_5, o_8_15, fv_8_15_0, fv_8_15_1, fv_8_15_2, fv_8_15_3, fv_8_15_4, rf_8_15_4, o_8_16, fv_8_16_0, fv_8_16_1, fv_8_16_2, fv_8_16_3, fv_8_16_4, rf_8_16_4, fv_8_16_5, rf_8_16_5, ia_8_2, is_8_2, ia_8_6, is_8_6, ia_8_7, is_8_7, ia_8_8, is_8_8, ia_8_9, is_8_9, ia_8_14, is_8_14, ia_8_17, is_8_17, ia_8_18, is_8_18, ia_8_19, is_8_19, ia_8_20, is_8_20, ia_8_21, is_8_21, ia_8_22, is_8_22, ia_8_23, is_8_23, iz_8_12, iz_8_13, aa_3, ar_3, aa_10, ar_10, aa_11, ar_11, ia_10, is_10, ia_11, is_11, Li_s, Lr_s, Ll_s, On_s, lget, lset, clr_i, clr_r, clr_n, Kc_i, Kc_v, Kc_x, true_and, and_true, List.length_cons, List.length_nil, nlg, isLn, List.all_cons, List.all_nil, Bool.and_true, Bool.not_false, Nat.zero_le, Nat.reduceAdd, Nat.reduceLeDiff, ↓reduceIte, Int.reduceLT, Int.reduceLE, Int.reduceAdd, Int.reduceSub, Int.reduceMul, Int.reduceNeg, Int.reduceToNat, Int.reduceEq, not_true_eq_false, not_false_eq_true, Int.toNat_zero, true_or, or_true]
  by_cases h : a < 0
  · rw [if_pos h]
    trivial
  · rw [if_neg h, if_neg (by omega)]
    trivial
theorem r_ckW (hc : c < 8) (h : ChI σ c f mi x) (hw : ¬ whC f x = 0) : Rn d 15 [vr 8 0, vi (c : Int)] σ (.inl none) σ := by
  have e1 := h.whole
  have w1 := whC_in f x
  refine Rn.of ?_
  rw [e15]
  simp (disch := first | omega | simp) only [u15_0, u15_1, u15_4, u15_5, u15_6, u15_9, u15_12, u15_15i, u15_15r, u15_22, o_8_0, fv_8_0_0, fv_8_0_1, fv_8_0_2, fv_8_0_3, fv_8_0_4, rf_8_0_4, o_8_1, fv_8_1_0, fv_8_1_1, rf_8_1_1, o_8_4, fv_8_4_0, fv_8_4_1, fv_8_4_2, fv_8_4_3, fv_8_4_4, fv_8_4_5, fv_8_4_6, rf_8_4_6, o_8_5, fv_8_5_0, fv_8_5_1, fv_8_5_2, fv_8_5_3, fv_8_5_4, rf_8_5_4, fv_8_5_5, rf_8_5_5, o_8_15, fv_8_15_0, fv_8_15_1, fv_8_15_2, fv_8_15_3, fv_8_15_4, rf_8_15_4, o_8_16, fv_8_16_0, fv_8_16_1, fv_8_16_2, fv_8_16_3, fv_8_16_4, rf_8_16_4, fv_8_16_5, rf_8_16_5, ia_8_2, is_8_2, ia_8_6, is_8_6, ia_8_7, is_8_7, ia_8_8, is_8_8, ia_8_9, is_8_9, ia_8_14, is_8_14, ia_8_17, is_8_17, ia_8_18, is_8_18, ia_8_19, is_8_19, ia_8_20, is_8_20, ia_8_21, is_8_21, ia_8_22, is_8_22, ia_8_23, is_8_23, iz_8_12, iz_8_13, aa_3, ar_3, aa_10, ar_10, aa_11, ar_11, ia_10, is_10, ia_11, is_11, o_c0, fv_c0_0, fv_c0_1, fv_c0_2, fv_c0_3, fv_c0_4, fv_c0_5, fv_c0_6, fv_c0_7, rf_c0_7, fv_c0_8, rf_c0_8, fv_c0_9, rf_c0_9, fv_c0_10, rf_c0_10, fv_c0_11, rf_c0_11, fv_c0_12, rf_c0_12, fv_c0_13, rf_c0_13, fv_c0_14, rf_c0_14, fv_c0_15, rf_c0_15, fv_c0_16, rf_c0_16, fv_c0_17, rf_c0_17, o_c1, fv_c1_0, fv_c1_1, fv_c1_2, rf_c1_2, o_c4, fv_c4_0, fv_c4_1, fv_c4_2, rf_c4_2, ia_c2, is_c2, ia_c3, is_c3, ia_c5, is_c5, ia_c6, is_c6, ia_c7, is_c7, ia_c8, is_c8, ia_c9, is_c9, ia_c10, is_c10, ia_c11, is_c11, Int.toNat_natCast, e1, Li_s, Lr_s, Ll_s, On_s, lget, lset, clr_i, clr_r, clr_n, Kc_i, Kc_v, Kc_x, true_and, and_true, List.length_cons, List.length_nil, nlg, isLn, List.all_cons, List.all_nil, Bool.and_true, Bool.not_false, Nat.zero_le, Nat.reduceAdd, Nat.reduceLeDiff, ↓reduceIte, Int.reduceLT, Int.reduceLE, Int.reduceAdd, Int.reduceSub, Int.reduceMul, Int.reduceNeg, Int.reduceToNat, Int.reduceEq, not_true_eq_false, not_false_eq_true, Int.toNat_zero, true_or, or_true]
  rw [if_pos hw]
  trivial
theorem r_ckW1 (hc : c < 8) (h : ChI σ c f mi x) (hw : whC f x = 0) : Rn d 15 [vr 8 0, vi (c : Int)] σ (.inr 2) σ := by
  have e1 := h.whole
  have w1 := whC_in f x
  refine Rn.of ?_
  rw [e15]
  simp (disch := first | omega | simp) only [u15_0, u15_1, u15_4, u15_5, u15_6, u15_9, u15_12, u15_15i, u15_15r, u15_22, o_8_0, fv_8_0_0, fv_8_0_1, fv_8_0_2, fv_8_0_3, fv_8_0_4, rf_8_0_4, o_8_1, fv_8_1_0, fv_8_1_1, rf_8_1_1, o_8_4, fv_8_4_0, fv_8_4_1, fv_8_4_2, fv_8_4_3, fv_8_4_4, fv_8_4_5, fv_8_4_6, rf_8_4_6, o_8_5, fv_8_5_0, fv_8_5_1, fv_8_5_2, fv_8_5_3, fv_8_5_4, rf_8_5_4, fv_8_5_5, rf_8_5_5, o_8_15, fv_8_15_0, fv_8_15_1, fv_8_15_2, fv_8_15_3, fv_8_15_4, rf_8_15_4, o_8_16, fv_8_16_0, fv_8_16_1, fv_8_16_2, fv_8_16_3, fv_8_16_4, rf_8_16_4, fv_8_16_5, rf_8_16_5, ia_8_2, is_8_2, ia_8_6, is_8_6, ia_8_7, is_8_7, ia_8_8, is_8_8, ia_8_9, is_8_9, ia_8_14, is_8_14, ia_8_17, is_8_17, ia_8_18, is_8_18, ia_8_19, is_8_19, ia_8_20, is_8_20, ia_8_21, is_8_21, ia_8_22, is_8_22, ia_8_23, is_8_23, iz_8_12, iz_8_13, aa_3, ar_3, aa_10, ar_10, aa_11, ar_11, ia_10, is_10, ia_11, is_11, o_c0, fv_c0_0, fv_c0_1, fv_c0_2, fv_c0_3, fv_c0_4, fv_c0_5, fv_c0_6, fv_c0_7, rf_c0_7, fv_c0_8, rf_c0_8, fv_c0_9, rf_c0_9, fv_c0_10, rf_c0_10, fv_c0_11, rf_c0_11, fv_c0_12, rf_c0_12, fv_c0_13, rf_c0_13, fv_c0_14, rf_c0_14, fv_c0_15, rf_c0_15, fv_c0_16, rf_c0_16, fv_c0_17, rf_c0_17, o_c1, fv_c1_0, fv_c1_1, fv_c1_2, rf_c1_2, o_c4, fv_c4_0, fv_c4_1, fv_c4_2, rf_c4_2, ia_c2, is_c2, ia_c3, is_c3, ia_c5, is_c5, ia_c6, is_c6, ia_c7, is_c7, ia_c8, is_c8, ia_c9, is_c9, ia_c10, is_c10, ia_c11, is_c11, Int.toNat_natCast, e1, Li_s, Lr_s, Ll_s, On_s, lget, lset, clr_i, clr_r, clr_n, Kc_i, Kc_v, Kc_x, true_and, and_true, List.length_cons, List.length_nil, nlg, isLn, List.all_cons, List.all_nil, Bool.and_true, Bool.not_false, Nat.zero_le, Nat.reduceAdd, Nat.reduceLeDiff, ↓reduceIte, Int.reduceLT, Int.reduceLE, Int.reduceAdd, Int.reduceSub, Int.reduceMul, Int.reduceNeg, Int.reduceToNat, Int.reduceEq, not_true_eq_false, not_false_eq_true, Int.toNat_zero, true_or, or_true]
  rw [if_neg (fun q => q hw)]
  trivial
/-- are chords i on, r of them, whole -/
def alW (f : Int) (C : Nat → Cho) : Nat → Nat → Prop
  | 0, _ => True
  | r + 1, i => ¬ whC f (C i) = 0 ∧ alW f C r (i + 1)
theorem alW_at : ∀ (r i : Nat), alW f C r i → ∀ j, i ≤ j → j < i + r → ¬ whC f (C j) = 0
  | 0, i, _, j, h1, h2 => by omega
  | r + 1, i, h, j, h1, h2 => by
    by_cases hj : j = i
    · subst hj
      exact h.1
    · exact alW_at r (i + 1) h.2 j (by omega) (by omega)
theorem l_ckA (hC : ∀ c, c < 8 → ChI σ c f mi (C c)) (hn : σ 8 0 4 = (n : Int)) (h8 : n ≤ 8) : ∀ (r i : Nat), i + r = n → (alW f C r i → (Wx (d + 1) 16 2 [some (vr 8 0), some (vi (i : Int))] [] σ Q ↔ Q (.inl none) σ)) ∧ (¬ alW f C r i → (Wx (d + 1) 16 2 [some (vr 8 0), some (vi (i : Int))] [] σ Q ↔ Q (.inr 2) σ)) := by
  intro r
  induction r with
  | zero =>
    intro i h1
    refine ⟨fun _ => ?_, fun h => absurd trivial h⟩
    rw [u16_2]
    simp (disch := first | omega | simp) only [u16_0, u16_1, u16_3, u16_4, u16_7, u16_10, u16_11, u16_12, u16_15, u16_18, u16_21, o_8_0, fv_8_0_0, fv_8_0_1, fv_8_0_2, fv_8_0_3, fv_8_0_4, rf_8_0_4, o_8_1, fv_8_1_0, fv_8_1_1, rf_8_1_1, o_8_4, fv_8_4_0, fv_8_4_1, fv_8_4_2, fv_8_4_3, fv_8_4_4, fv_8_4_5, fv_8_4_6, rf_8_4_6, o_8_5, fv_8_5_0, fv_8_5_1, fv_8_5_2, fv_8_5_3, fv_8_5_4, rf_8_5_4, fv_8_5_5, rf_8_5_5, o_8_15, fv_8_15_0, fv_8_15_1, fv_8_15_2, fv_8_15_3, fv_8_15_4, rf_8_15_4, o_8_16, fv_8_16_0, fv_8_16_1, fv_8_16_2, fv_8_16_3, fv_8_16_4, rf_8_16_4, fv_8_16_5, rf_8_16_5, ia_8_2, is_8_2, ia_8_6, is_8_6, ia_8_7, is_8_7, ia_8_8, is_8_8, ia_8_9, is_8_9, ia_8_14, is_8_14, ia_8_17, is_8_17, ia_8_18, is_8_18, ia_8_19, is_8_19, ia_8_20, is_8_20, ia_8_21, is_8_21, ia_8_22, is_8_22, ia_8_23, is_8_23, iz_8_12, iz_8_13, aa_3, ar_3, aa_10, ar_10, aa_11, ar_11, ia_10, is_10, ia_11, is_11, hn, Li_s, Lr_s, Ll_s, On_s, lget, lset, clr_i, clr_r, clr_n, Kc_i, Kc_v, Kc_x, true_and, and_true, List.length_cons, List.length_nil, nlg, isLn, List.all_cons, List.all_nil, Bool.and_true, Bool.not_false, Nat.zero_le, Nat.reduceAdd, Nat.reduceLeDiff, ↓reduceIte, Int.reduceLT, Int.reduceLE, Int.reduceAdd, Int.reduceSub, Int.reduceMul, Int.reduceNeg, Int.reduceToNat, Int.reduceEq, not_true_eq_false, not_false_eq_true, Int.toNat_zero, true_or, or_true]
    rw [if_pos (by omega)]
  | succ r ih =>
    intro i h1
    have hi : (n : Int) ≤ (i : Int) ↔ False := by
      constructor
      · intro h
        omega
      · exact False.elim
    obtain ⟨p1, p2⟩ := ih (i + 1) (by omega)
    have z : ((i + 1 : Nat) : Int) = (i : Int) + 1 := by omega
    rw [z] at p1 p2
    by_cases hw : whC f (C i) = 0
    · refine ⟨fun h => absurd hw h.1, fun _ => ?_⟩
      rw [u16_2]
      simp (disch := first | omega | simp) only [u16_0, u16_1, u16_3, u16_4, u16_7, u16_10, u16_11, u16_12, u16_15, u16_18, u16_21, o_8_0, fv_8_0_0, fv_8_0_1, fv_8_0_2, fv_8_0_3, fv_8_0_4, rf_8_0_4, o_8_1, fv_8_1_0, fv_8_1_1, rf_8_1_1, o_8_4, fv_8_4_0, fv_8_4_1, fv_8_4_2, fv_8_4_3, fv_8_4_4, fv_8_4_5, fv_8_4_6, rf_8_4_6, o_8_5, fv_8_5_0, fv_8_5_1, fv_8_5_2, fv_8_5_3, fv_8_5_4, rf_8_5_4, fv_8_5_5, rf_8_5_5, o_8_15, fv_8_15_0, fv_8_15_1, fv_8_15_2, fv_8_15_3, fv_8_15_4, rf_8_15_4, o_8_16, fv_8_16_0, fv_8_16_1, fv_8_16_2, fv_8_16_3, fv_8_16_4, rf_8_16_4, fv_8_16_5, rf_8_16_5, ia_8_2, is_8_2, ia_8_6, is_8_6, ia_8_7, is_8_7, ia_8_8, is_8_8, ia_8_9, is_8_9, ia_8_14, is_8_14, ia_8_17, is_8_17, ia_8_18, is_8_18, ia_8_19, is_8_19, ia_8_20, is_8_20, ia_8_21, is_8_21, ia_8_22, is_8_22, ia_8_23, is_8_23, iz_8_12, iz_8_13, aa_3, ar_3, aa_10, ar_10, aa_11, ar_11, ia_10, is_10, ia_11, is_11, hn, hi, Li_s, Lr_s, Ll_s, On_s, lget, lset, clr_i, clr_r, clr_n, Kc_i, Kc_v, Kc_x, true_and, and_true, List.length_cons, List.length_nil, nlg, isLn, List.all_cons, List.all_nil, Bool.and_true, Bool.not_false, Nat.zero_le, Nat.reduceAdd, Nat.reduceLeDiff, ↓reduceIte, Int.reduceLT, Int.reduceLE, Int.reduceAdd, Int.reduceSub, Int.reduceMul, Int.reduceNeg, Int.reduceToNat, Int.reduceEq, not_true_eq_false, not_false_eq_true, Int.toNat_zero, true_or, or_true]
      rw [(r_ckW1 (by omega) (hC i (by omega)) hw).iff]
      simp (disch := first | omega | simp) only [u16_0, u16_1, u16_3, u16_4, u16_7, u16_10, u16_11, u16_12, u16_15, u16_18, u16_21, o_8_0, fv_8_0_0, fv_8_0_1, fv_8_0_2, fv_8_0_3, fv_8_0_4, rf_8_0_4, o_8_1, fv_8_1_0, fv_8_1_1, rf_8_1_1, o_8_4, fv_8_4_0, fv_8_4_1, fv_8_4_2, fv_8_4_3, fv_8_4_4, fv_8_4_5, fv_8_4_6, rf_8_4_6, o_8_5, fv_8_5_0, fv_8_5_1, fv_8_5_2, fv_8_5_3, fv_8_5_4, rf_8_5_4, fv_8_5_5, rf_8_5_5, o_8_15, fv_8_15_0, fv_8_15_1, fv_8_15_2, fv_8_15_3, fv_8_15_4, rf_8_15_4, o_8_16, fv_8_16_0, fv_8_16_1, fv_8_16_2, fv_8_16_3, fv_8_16_4, rf_8_16_4, fv_8_16_5, rf_8_16_5, ia_8_2, is_8_2, ia_8_6, is_8_6, ia_8_7, is_8_7, ia_8_8, is_8_8, ia_8_9, is_8_9, ia_8_14, is_8_14, ia_8_17, is_8_17, ia_8_18, is_8_18, ia_8_19, is_8_19, ia_8_20, is_8_20, ia_8_21, is_8_21, ia_8_22, is_8_22, ia_8_23, is_8_23, iz_8_12, iz_8_13, aa_3, ar_3, aa_10, ar_10, aa_11, ar_11, ia_10, is_10, ia_11, is_11, Li_s, Lr_s, Ll_s, On_s, lget, lset, clr_i, clr_r, clr_n, Kc_i, Kc_v, Kc_x, true_and, and_true, List.length_cons, List.length_nil, nlg, isLn, List.all_cons, List.all_nil, Bool.and_true, Bool.not_false, Nat.zero_le, Nat.reduceAdd, Nat.reduceLeDiff, ↓reduceIte, Int.reduceLT, Int.reduceLE, Int.reduceAdd, Int.reduceSub, Int.reduceMul, Int.reduceNeg, Int.reduceToNat, Int.reduceEq, not_true_eq_false, not_false_eq_true, Int.toNat_zero, true_or, or_true]
    · refine ⟨fun h => ?_, fun h => ?_⟩
      · rw [u16_2]
        simp (disch := first | omega | simp) only [u16_0, u16_1, u16_3, u16_4, u16_7, u16_10, u16_11, u16_12, u16_15, u16_18, u16_21, o_8_0, fv_8_0_0, fv_8_0_1, fv_8_0_2, fv_8_0_3, fv_8_0_4, rf_8_0_4, o_8_1, fv_8_1_0, fv_8_1_1, rf_8_1_1, o_8_4, fv_8_4_0, fv_8_4_1, fv_8_4_2, fv_8_4_3, fv_8_4_4, fv_8_4_5, fv_8_4_6, rf_8_4_6, o_8_5, fv_8_5_0, fv_8_5_1, fv_8_5_2, fv_8_5_3, fv_8_5_4, rf_8_5_4, fv_8_5_5, rf_8_5_5, o_8_15, fv_8_15_0, fv_8_15_1, fv_8_15_2, fv_8_15_3, fv_8_15_4, rf_8_15_4, o_8_16, fv_8_16_0, fv_8_16_1, fv_8_16_2, fv_8_16_3, fv_8_16_4, rf_8_16_4, fv_8_16_5, rf_8_16_5, ia_8_2, is_8_2, ia_8_6, is_8_6, ia_8_7, is_8_7, ia_8_8, is_8_8, ia_8_9, is_8_9, ia_8_14, is_8_14, ia_8_17, is_8_17, ia_8_18, is_8_18, ia_8_19, is_8_19, ia_8_20, is_8_20, ia_8_21, is_8_21, ia_8_22, is_8_22, ia_8_23, is_8_23, iz_8_12, iz_8_13, aa_3, ar_3, aa_10, ar_10, aa_11, ar_11, ia_10, is_10, ia_11, is_11, hn, hi, Li_s, Lr_s, Ll_s, On_s, lget, lset, clr_i, clr_r, clr_n, Kc_i, Kc_v, Kc_x, true_and, and_true, List.length_cons, List.length_nil, nlg, isLn, List.all_cons, List.all_nil, Bool.and_true, Bool.not_false, Nat.zero_le, Nat.reduceAdd, Nat.reduceLeDiff, ↓reduceIte, Int.reduceLT, Int.reduceLE, Int.reduceAdd, Int.reduceSub, Int.reduceMul, Int.reduceNeg, Int.reduceToNat, Int.reduceEq, not_true_eq_false, not_false_eq_true, Int.toNat_zero, true_or, or_true]
        rw [(r_ckW (by omega) (hC i (by omega)) hw).iff]
        simp (disch := first | omega | simp) only [u16_0, u16_1, u16_3, u16_4, u16_7, u16_10, u16_11, u16_12, u16_15, u16_18, u16_21, o_8_0, fv_8_0_0, fv_8_0_1, fv_8_0_2, fv_8_0_3, fv_8_0_4, rf_8_0_4, o_8_1, fv_8_1_0, fv_8_1_1, rf_8_1_1, o_8_4, fv_8_4_0, fv_8_4_1, fv_8_4_2, fv_8_4_3, fv_8_4_4, fv_8_4_5, fv_8_4_6, rf_8_4_6, o_8_5, fv_8_5_0, fv_8_5_1, fv_8_5_2, fv_8_5_3, fv_8_5_4, rf_8_5_4, fv_8_5_5, rf_8_5_5, o_8_15, fv_8_15_0, fv_8_15_1, fv_8_15_2, fv_8_15_3, fv_8_15_4, rf_8_15_4, o_8_16, fv_8_16_0, fv_8_16_1, fv_8_16_2, fv_8_16_3, fv_8_16_4, rf_8_16_4, fv_8_16_5, rf_8_16_5, ia_8_2, is_8_2, ia_8_6, is_8_6, ia_8_7, is_8_7, ia_8_8, is_8_8, ia_8_9, is_8_9, ia_8_14, is_8_14, ia_8_17, is_8_17, ia_8_18, is_8_18, ia_8_19, is_8_19, ia_8_20, is_8_20, ia_8_21, is_8_21, ia_8_22, is_8_22, ia_8_23, is_8_23, iz_8_12, iz_8_13, aa_3, ar_3, aa_10, ar_10, aa_11, ar_11, ia_10, is_10, ia_11, is_11, Li_s, Lr_s, Ll_s, On_s, lget, lset, clr_i, clr_r, clr_n, Kc_i, Kc_v, Kc_x, true_and, and_true, List.length_cons, List.length_nil, nlg, isLn, List.all_cons, List.all_nil, Bool.and_true, Bool.not_false, Nat.zero_le, Nat.reduceAdd, Nat.reduceLeDiff, ↓reduceIte, Int.reduceLT, Int.reduceLE, Int.reduceAdd, Int.reduceSub, Int.reduceMul, Int.reduceNeg, Int.reduceToNat, Int.reduceEq, not_true_eq_false, not_false_eq_true, Int.toNat_zero, true_or, or_true]
        exact p1 h.2
      · rw [u16_2]
        simp (disch := first | omega | simp) only [u16_0, u16_1, u16_3, u16_4, u16_7, u16_10, u16_11, u16_12, u16_15, u16_18, u16_21, o_8_0, fv_8_0_0, fv_8_0_1, fv_8_0_2, fv_8_0_3, fv_8_0_4, rf_8_0_4, o_8_1, fv_8_1_0, fv_8_1_1, rf_8_1_1, o_8_4, fv_8_4_0, fv_8_4_1, fv_8_4_2, fv_8_4_3, fv_8_4_4, fv_8_4_5, fv_8_4_6, rf_8_4_6, o_8_5, fv_8_5_0, fv_8_5_1, fv_8_5_2, fv_8_5_3, fv_8_5_4, rf_8_5_4, fv_8_5_5, rf_8_5_5, o_8_15, fv_8_15_0, fv_8_15_1, fv_8_15_2, fv_8_15_3, fv_8_15_4, rf_8_15_4, o_8_16, fv_8_16_0, fv_8_16_1, fv_8_16_2, fv_8_16_3, fv_8_16_4, rf_8_16_4, fv_8_16_5, rf_8_16_5, ia_8_2, is_8_2, ia_8_6, is_8_6, ia_8_7, is_8_7, ia_8_8, is_8_8, ia_8_9, is_8_9, ia_8_14, is_8_14, ia_8_17, is_8_17, ia_8_18, is_8_18, ia_8_19, is_8_19, ia_8_20, is_8_20, ia_8_21, is_8_21, ia_8_22, is_8_22, ia_8_23, is_8_23, iz_8_12, iz_8_13, aa_3, ar_3, aa_10, ar_10, aa_11, ar_11, ia_10, is_10, ia_11, is_11, hn, hi, Li_s, Lr_s, Ll_s, On_s, lget, lset, clr_i, clr_r, clr_n, Kc_i, Kc_v, Kc_x, true_and, and_true, List.length_cons, List.length_nil, nlg, isLn, List.all_cons, List.all_nil, Bool.and_true, Bool.not_false, Nat.zero_le, Nat.reduceAdd, Nat.reduceLeDiff, ↓reduceIte, Int.reduceLT, Int.reduceLE, Int.reduceAdd, Int.reduceSub, Int.reduceMul, Int.reduceNeg, Int.reduceToNat, Int.reduceEq, not_true_eq_false, not_false_eq_true, Int.toNat_zero, true_or, or_true]
        rw [(r_ckW (by omega) (hC i (by omega)) hw).iff]
        simp (disch := first | omega | simp) only [u16_0, u16_1, u16_3, u16_4, u16_7, u16_10, u16_11, u16_12, u16_15, u16_18, u16_21, o_8_0, fv_8_0_0, fv_8_0_1, fv_8_0_2, fv_8_0_3, fv_8_0_4, rf_8_0_4, o_8_1, fv_8_1_0, fv_8_1_1, rf_8_1_1, o_8_4, fv_8_4_0, fv_8_4_1, fv_8_4_2, fv_8_4_3, fv_8_4_4, fv_8_4_5, fv_8_4_6, rf_8_4_6, o_8_5, fv_8_5_0, fv_8_5_1, fv_8_5_2, fv_8_5_3, fv_8_5_4, rf_8_5_4, fv_8_5_5, rf_8_5_5, o_8_15, fv_8_15_0, fv_8_15_1, fv_8_15_2, fv_8_15_3, fv_8_15_4, rf_8_15_4, o_8_16, fv_8_16_0, fv_8_16_1, fv_8_16_2, fv_8_16_3, fv_8_16_4, rf_8_16_4, fv_8_16_5, rf_8_16_5, ia_8_2, is_8_2, ia_8_6, is_8_6, ia_8_7, is_8_7, ia_8_8, is_8_8, ia_8_9, is_8_9, ia_8_14, is_8_14, ia_8_17, is_8_17, ia_8_18, is_8_18, ia_8_19, is_8_19, ia_8_20, is_8_20, ia_8_21, is_8_21, ia_8_22, is_8_22, ia_8_23, is_8_23, iz_8_12, iz_8_13, aa_3, ar_3, aa_10, ar_10, aa_11, ar_11, ia_10, is_10, ia_11, is_11, Li_s, Lr_s, Ll_s, On_s, lget, lset, clr_i, clr_r, clr_n, Kc_i, Kc_v, Kc_x, true_and, and_true, List.length_cons, List.length_nil, nlg, isLn, List.all_cons, List.all_nil, Bool.and_true, Bool.not_false, Nat.zero_le, Nat.reduceAdd, Nat.reduceLeDiff, ↓reduceIte, Int.reduceLT, Int.reduceLE, Int.reduceAdd, Int.reduceSub, Int.reduceMul, Int.reduceNeg, Int.reduceToNat, Int.reduceEq, not_true_eq_false, not_false_eq_true, Int.toNat_zero, true_or, or_true]
        exact p2 (fun q => h ⟨hw, q⟩)
theorem r_ckA (h : CI σ f mi n C W L) (hw : alW f C n 0) : Rn (d + 1) 16 [vr 8 0] σ (.inl none) σ := by
  refine Rn.of ?_
  rw [e16]
  simp (disch := first | omega | simp) only [u16_0, u16_1, u16_3, u16_4, u16_7, u16_10, u16_11, u16_12, u16_15, u16_18, u16_21, Li_s, Lr_s, Ll_s, On_s, lget, lset, clr_i, clr_r, clr_n, Kc_i, Kc_v, Kc_x, true_and, and_true, List.length_cons, List.length_nil, nlg, isLn, List.all_cons, List.all_nil, Bool.and_true, Bool.not_false, Nat.zero_le, Nat.reduceAdd, Nat.reduceLeDiff, ↓reduceIte, Int.reduceLT, Int.reduceLE, Int.reduceAdd, Int.reduceSub, Int.reduceMul, Int.reduceNeg, Int.reduceToNat, Int.reduceEq, not_true_eq_false, not_false_eq_true, Int.toNat_zero, true_or, or_true]
  exact ((l_ckA h.2.2.2.2.2.1 h.2.2.2.2.1 h.2.2.1.2 n 0 (by omega)).1 hw).mpr ⟨rfl, rfl⟩
theorem r_ckA1 (h : CI σ f mi n C W L) (hw : ¬ alW f C n 0) : Rn (d + 1) 16 [vr 8 0] σ (.inr 2) σ := by
  refine Rn.of ?_
  rw [e16]
  simp (disch := first | omega | simp) only [u16_0, u16_1, u16_3, u16_4, u16_7, u16_10, u16_11, u16_12, u16_15, u16_18, u16_21, Li_s, Lr_s, Ll_s, On_s, lget, lset, clr_i, clr_r, clr_n, Kc_i, Kc_v, Kc_x, true_and, and_true, List.length_cons, List.length_nil, nlg, isLn, List.all_cons, List.all_nil, Bool.and_true, Bool.not_false, Nat.zero_le, Nat.reduceAdd, Nat.reduceLeDiff, ↓reduceIte, Int.reduceLT, Int.reduceLE, Int.reduceAdd, Int.reduceSub, Int.reduceMul, Int.reduceNeg, Int.reduceToNat, Int.reduceEq, not_true_eq_false, not_false_eq_true, Int.toNat_zero, true_or, or_true]
  exact ((l_ckA h.2.2.2.2.2.1 h.2.2.2.2.1 h.2.2.1.2 n 0 (by omega)).2 hw).mpr ⟨rfl, rfl⟩
theorem r_ckL {w : Nat → Int} (h : CI σ f mi n C (some w) L) : Rn d 17 [vr 8 0] σ (.inl none) σ := by
  have e1 := h.2.2.2.2.2.2.2.1
  refine Rn.of ?_
  rw [e17]
  simp (disch := first | omega | simp) only [u17_0, u17_1, u17_4, u17_7, u17_10, u17_13i, u17_13r, u17_20, o_8_0, fv_8_0_0, fv_8_0_1, fv_8_0_2, fv_8_0_3, fv_8_0_4, rf_8_0_4, o_8_1, fv_8_1_0, fv_8_1_1, rf_8_1_1, o_8_4, fv_8_4_0, fv_8_4_1, fv_8_4_2, fv_8_4_3, fv_8_4_4, fv_8_4_5, fv_8_4_6, rf_8_4_6, o_8_5, fv_8_5_0, fv_8_5_1, fv_8_5_2, fv_8_5_3, fv_8_5_4, rf_8_5_4, fv_8_5_5, rf_8_5_5, o_8_15, fv_8_15_0, fv_8_15_1, fv_8_15_2, fv_8_15_3, fv_8_15_4, rf_8_15_4, o_8_16, fv_8_16_0, fv_8_16_1, fv_8_16_2, fv_8_16_3, fv_8_16_4, rf_8_16_4, fv_8_16_5, rf_8_16_5, ia_8_2, is_8_2, ia_8_6, is_8_6, ia_8_7, is_8_7, ia_8_8, is_8_8, ia_8_9, is_8_9, ia_8_14, is_8_14, ia_8_17, is_8_17, ia_8_18, is_8_18, ia_8_19, is_8_19, ia_8_20, is_8_20, ia_8_21, is_8_21, ia_8_22, is_8_22, ia_8_23, is_8_23, iz_8_12, iz_8_13, aa_3, ar_3, aa_10, ar_10, aa_11, ar_11, ia_10, is_10, ia_11, is_11, e1, Li_s, Lr_s, Ll_s, On_s, lget, lset, clr_i, clr_r, clr_n, Kc_i, Kc_v, Kc_x, true_and, and_true, List.length_cons, List.length_nil, nlg, isLn, List.all_cons, List.all_nil, Bool.and_true, Bool.not_false, Nat.zero_le, Nat.reduceAdd, Nat.reduceLeDiff, ↓reduceIte, Int.reduceLT, Int.reduceLE, Int.reduceAdd, Int.reduceSub, Int.reduceMul, Int.reduceNeg, Int.reduceToNat, Int.reduceEq, not_true_eq_false, not_false_eq_true, Int.toNat_zero, true_or, or_true]
theorem r_ckL1 (h : CI σ f mi n C none L) : Rn d 17 [vr 8 0] σ (.inr 2) σ := by
  have e1 : σ 8 4 6 = 0 := h.2.2.2.2.2.2.2
  refine Rn.of ?_
  rw [e17]
  simp (disch := first | omega | simp) only [u17_0, u17_1, u17_4, u17_7, u17_10, u17_13i, u17_13r, u17_20, o_8_0, fv_8_0_0, fv_8_0_1, fv_8_0_2, fv_8_0_3, fv_8_0_4, rf_8_0_4, o_8_1, fv_8_1_0, fv_8_1_1, rf_8_1_1, o_8_4, fv_8_4_0, fv_8_4_1, fv_8_4_2, fv_8_4_3, fv_8_4_4, fv_8_4_5, fv_8_4_6, rf_8_4_6, o_8_5, fv_8_5_0, fv_8_5_1, fv_8_5_2, fv_8_5_3, fv_8_5_4, rf_8_5_4, fv_8_5_5, rf_8_5_5, o_8_15, fv_8_15_0, fv_8_15_1, fv_8_15_2, fv_8_15_3, fv_8_15_4, rf_8_15_4, o_8_16, fv_8_16_0, fv_8_16_1, fv_8_16_2, fv_8_16_3, fv_8_16_4, rf_8_16_4, fv_8_16_5, rf_8_16_5, ia_8_2, is_8_2, ia_8_6, is_8_6, ia_8_7, is_8_7, ia_8_8, is_8_8, ia_8_9, is_8_9, ia_8_14, is_8_14, ia_8_17, is_8_17, ia_8_18, is_8_18, ia_8_19, is_8_19, ia_8_20, is_8_20, ia_8_21, is_8_21, ia_8_22, is_8_22, ia_8_23, is_8_23, iz_8_12, iz_8_13, aa_3, ar_3, aa_10, ar_10, aa_11, ar_11, ia_10, is_10, ia_11, is_11, e1, Li_s, Lr_s, Ll_s, On_s, lget, lset, clr_i, clr_r, clr_n, Kc_i, Kc_v, Kc_x, true_and, and_true, List.length_cons, List.length_nil, nlg, isLn, List.all_cons, List.all_nil, Bool.and_true, Bool.not_false, Nat.zero_le, Nat.reduceAdd, Nat.reduceLeDiff, ↓reduceIte, Int.reduceLT, Int.reduceLE, Int.reduceAdd, Int.reduceSub, Int.reduceMul, Int.reduceNeg, Int.reduceToNat, Int.reduceEq, not_true_eq_false, not_false_eq_true, Int.toNat_zero, true_or, or_true]
end SI
