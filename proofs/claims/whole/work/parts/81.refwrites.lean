/-! THE REFERENCE: pupil, bass -/
section RB
variable {d : Nat} {σ σ' : Sg} {c : Nat} {f mi : Int} {n : Nat} {C : Nat → Cho} {W : Option (Nat → Int)} {L : List Flt} {x : Cho} {a v s b l o : Int} {Q : Rs → Sg → Prop}
theorem q_pupil (h : RI σ f mi n C W L) (hc : c < 8) (hv : 0 ≤ v ∧ v ≤ 2) (hs : 0 ≤ s ∧ s ≤ 127) (q : ∀ σ', RI σ' f mi n (upc C c ((C c).1, (C c).2.1, (C c).2.2.1, (C c).2.2.2.1, fun u => if u = v then s else (C c).2.2.2.2 u)) W L → σ' 9 0 0 = 0 → Q (.inl none) σ') : Wm (d + 1) 120 [vr 9 0, vi (c : Int), vi v, vi s] σ Q := by
  obtain ⟨h0, h1, h2, h3, h4, h5, h6, h7, h8, h9⟩ := h
  have e1 : up σ 9 0 0 0 9 0 0 = 0 := by simp [up_at]
  rw [e120]
  simp (disch := first | omega | simp) only [u120_0, u120_1, u120_2, u120_3, u120_6, u120_9, u120_10, u120_13, u120_14, u120_15, u120_18, u120_19, u120_22, u120_23, u120_25, u120_28, u120_29, u120_32, u120_33, u120_36, u120_37, u120_40, u120_43, u120_44, u120_47, u120_48, u120_49, u120_50, u120_51, u120_52, u120_53, u120_54, o_9_0, fv_9_0_0, rf_9_0_0, fv_9_0_1, fv_9_0_2, fv_9_0_3, fv_9_0_4, fv_9_0_5, rf_9_0_5, fv_9_0_6, rf_9_0_6, fv_9_0_7, rf_9_0_7, fv_9_0_8, fv_9_0_9, fv_9_0_10, fv_9_0_11, fv_9_0_12, fv_9_0_13, fv_9_0_14, rf_9_0_14, fv_9_0_15, fv_9_0_16, fv_9_0_17, rf_9_0_17, fv_9_0_18, fv_9_0_19, fv_9_0_20, rf_9_0_20, fv_9_0_21, rf_9_0_21, fv_9_0_22, rf_9_0_22, fv_9_0_23, fv_9_0_24, fv_9_0_25, fv_9_0_26, fv_9_0_27, fv_9_0_28, fv_9_0_29, fv_9_0_30, fv_9_0_31, fv_9_0_32, rf_9_0_32, fv_9_0_33, fv_9_0_34, fv_9_0_35, fv_9_0_36, rf_9_0_36, fv_9_0_37, fv_9_0_38, fv_9_0_39, fv_9_0_40, fv_9_0_41, ia_9_1, is_9_1, ia_9_2, is_9_2, ia_9_3, is_9_3, ia_9_4, is_9_4, ia_9_5, is_9_5, ia_9_6, is_9_6, ia_9_7, is_9_7, ia_9_8, is_9_8, ia_9_9, is_9_9, ia_9_10, is_9_10, ia_9_11, is_9_11, ia_9_12, is_9_12, ia_9_13, is_9_13, ia_9_14, is_9_14, ia_9_15, is_9_15, ia_9_16, is_9_16, ia_9_17, is_9_17, ia_9_18, is_9_18, ia_9_19, is_9_19, ia_9_20, is_9_20, ia_9_21, is_9_21, ia_9_22, is_9_22, ia_9_24, is_9_24, ia_9_25, is_9_25, ia_9_26, is_9_26, ia_9_27, is_9_27, ia_9_28, is_9_28, ia_9_29, is_9_29, ia_9_30, is_9_30, ia_9_31, is_9_31, iz_9_23, Li_s, Lr_s, Ll_s, On_s, lget, lset, clr_i, clr_r, clr_n, Kc_i, Kc_v, Kc_x, true_and, and_true, List.length_cons, List.length_nil, nlg, isLn, List.all_cons, List.all_nil, Bool.and_true, Bool.not_false, Nat.zero_le, Nat.reduceAdd, Nat.reduceLeDiff, ↓reduceIte, Int.reduceLT, Int.reduceLE, Int.reduceAdd, Int.reduceSub, Int.reduceMul, Int.reduceNeg, Int.reduceToNat, Int.reduceEq, not_true_eq_false, not_false_eq_true, Int.toNat_zero, true_or, or_true]
  rw [(r_noChord (by omega)).iff, if_neg (by omega)]
  simp (disch := first | omega | simp) only [u120_0, u120_1, u120_2, u120_3, u120_6, u120_9, u120_10, u120_13, u120_14, u120_15, u120_18, u120_19, u120_22, u120_23, u120_25, u120_28, u120_29, u120_32, u120_36, u120_37, u120_40, u120_43, u120_44, u120_47, u120_48, u120_49, u120_50, u120_51, u120_52, u120_53, u120_54, o_9_0, fv_9_0_0, rf_9_0_0, fv_9_0_1, fv_9_0_2, fv_9_0_3, fv_9_0_4, fv_9_0_5, rf_9_0_5, fv_9_0_6, rf_9_0_6, fv_9_0_7, rf_9_0_7, fv_9_0_8, fv_9_0_9, fv_9_0_10, fv_9_0_11, fv_9_0_12, fv_9_0_13, fv_9_0_14, rf_9_0_14, fv_9_0_15, fv_9_0_16, fv_9_0_17, rf_9_0_17, fv_9_0_18, fv_9_0_19, fv_9_0_20, rf_9_0_20, fv_9_0_21, rf_9_0_21, fv_9_0_22, rf_9_0_22, fv_9_0_23, fv_9_0_24, fv_9_0_25, fv_9_0_26, fv_9_0_27, fv_9_0_28, fv_9_0_29, fv_9_0_30, fv_9_0_31, fv_9_0_32, rf_9_0_32, fv_9_0_33, fv_9_0_34, fv_9_0_35, fv_9_0_36, rf_9_0_36, fv_9_0_37, fv_9_0_38, fv_9_0_39, fv_9_0_40, fv_9_0_41, ia_9_1, is_9_1, ia_9_2, is_9_2, ia_9_3, is_9_3, ia_9_4, is_9_4, ia_9_5, is_9_5, ia_9_6, is_9_6, ia_9_7, is_9_7, ia_9_8, is_9_8, ia_9_9, is_9_9, ia_9_10, is_9_10, ia_9_11, is_9_11, ia_9_12, is_9_12, ia_9_13, is_9_13, ia_9_14, is_9_14, ia_9_15, is_9_15, ia_9_16, is_9_16, ia_9_17, is_9_17, ia_9_18, is_9_18, ia_9_19, is_9_19, ia_9_20, is_9_20, ia_9_21, is_9_21, ia_9_22, is_9_22, ia_9_24, is_9_24, ia_9_25, is_9_25, ia_9_26, is_9_26, ia_9_27, is_9_27, ia_9_28, is_9_28, ia_9_29, is_9_29, ia_9_30, is_9_30, ia_9_31, is_9_31, iz_9_23, Li_s, Lr_s, Ll_s, On_s, lget, lset, clr_i, clr_r, clr_n, Kc_i, Kc_v, Kc_x, true_and, and_true, List.length_cons, List.length_nil, nlg, isLn, List.all_cons, List.all_nil, Bool.and_true, Bool.not_false, Nat.zero_le, Nat.reduceAdd, Nat.reduceLeDiff, ↓reduceIte, Int.reduceLT, Int.reduceLE, Int.reduceAdd, Int.reduceSub, Int.reduceMul, Int.reduceNeg, Int.reduceToNat, Int.reduceEq, not_true_eq_false, not_false_eq_true, Int.toNat_zero, true_or, or_true]
  rw [if_neg (by omega), if_neg (by omega), if_neg (by omega), if_pos (by omega)]
  simp (disch := first | omega | simp) only [u120_0, u120_1, u120_2, u120_3, u120_6, u120_9, u120_10, u120_13, u120_14, u120_15, u120_18, u120_19, u120_22, u120_23, u120_25, u120_28, u120_29, u120_32, u120_33, u120_36, u120_37, u120_40, u120_43, u120_44, u120_47, u120_48, u120_49, u120_50, u120_51, u120_52, u120_53, u120_54, o_9_0, fv_9_0_0, rf_9_0_0, fv_9_0_1, fv_9_0_2, fv_9_0_3, fv_9_0_4, fv_9_0_5, rf_9_0_5, fv_9_0_6, rf_9_0_6, fv_9_0_7, rf_9_0_7, fv_9_0_8, fv_9_0_9, fv_9_0_10, fv_9_0_11, fv_9_0_12, fv_9_0_13, fv_9_0_14, rf_9_0_14, fv_9_0_15, fv_9_0_16, fv_9_0_17, rf_9_0_17, fv_9_0_18, fv_9_0_19, fv_9_0_20, rf_9_0_20, fv_9_0_21, rf_9_0_21, fv_9_0_22, rf_9_0_22, fv_9_0_23, fv_9_0_24, fv_9_0_25, fv_9_0_26, fv_9_0_27, fv_9_0_28, fv_9_0_29, fv_9_0_30, fv_9_0_31, fv_9_0_32, rf_9_0_32, fv_9_0_33, fv_9_0_34, fv_9_0_35, fv_9_0_36, rf_9_0_36, fv_9_0_37, fv_9_0_38, fv_9_0_39, fv_9_0_40, fv_9_0_41, ia_9_1, is_9_1, ia_9_2, is_9_2, ia_9_3, is_9_3, ia_9_4, is_9_4, ia_9_5, is_9_5, ia_9_6, is_9_6, ia_9_7, is_9_7, ia_9_8, is_9_8, ia_9_9, is_9_9, ia_9_10, is_9_10, ia_9_11, is_9_11, ia_9_12, is_9_12, ia_9_13, is_9_13, ia_9_14, is_9_14, ia_9_15, is_9_15, ia_9_16, is_9_16, ia_9_17, is_9_17, ia_9_18, is_9_18, ia_9_19, is_9_19, ia_9_20, is_9_20, ia_9_21, is_9_21, ia_9_22, is_9_22, ia_9_24, is_9_24, ia_9_25, is_9_25, ia_9_26, is_9_26, ia_9_27, is_9_27, ia_9_28, is_9_28, ia_9_29, is_9_29, ia_9_30, is_9_30, ia_9_31, is_9_31, iz_9_23, e1, Li_s, Lr_s, Ll_s, On_s, lget, lset, clr_i, clr_r, clr_n, Kc_i, Kc_v, Kc_x, true_and, and_true, List.length_cons, List.length_nil, nlg, isLn, List.all_cons, List.all_nil, Bool.and_true, Bool.not_false, Nat.zero_le, Nat.reduceAdd, Nat.reduceLeDiff, ↓reduceIte, Int.reduceLT, Int.reduceLE, Int.reduceAdd, Int.reduceSub, Int.reduceMul, Int.reduceNeg, Int.reduceToNat, Int.reduceEq, not_true_eq_false, not_false_eq_true, Int.toNat_zero, true_or, or_true]
  generalize hz : up (up σ 9 0 0 0) 9 26 (3 * (c : Int) + v).toNat s = σ1
  have z : ∀ j k, ¬ (j = 0 ∧ k = 0) → ¬ j = 26 → σ1 9 j k = σ 9 j k := fun j k hj h26 => by rw [← hz, up_at, if_neg (by omega), up_at, if_neg (by omega)]
  have z26 : ∀ i : Nat, i < 8 → ∀ u : Int, 0 ≤ u → u ≤ 2 → σ1 9 26 (3 * (i : Int) + u).toNat = if i = c ∧ u = v then s else σ 9 26 (3 * (i : Int) + u).toNat := fun i hi u u0 u1 => by
    rw [← hz, up_at]
    by_cases g : i = c ∧ u = v
    · rw [if_pos ⟨rfl, rfl, by rw [g.1, g.2]⟩, if_pos g]
    · rw [if_neg (by omega), if_neg g, up_at, if_neg (by omega)]
  refine q σ1 ⟨h0.fr (fun j k j1 j2 => z _ _ (by omega) (by omega)), h1, h2, h3, (z _ _ (by omega) (by omega)).trans h4, (z _ _ (by omega) (by omega)).trans h5, (z _ _ (by omega) (by omega)).trans h6, fun i hi => ?_, ⟨h8.1.fr (z _ _ (by omega) (by omega)) (fun j k j1 j2 => z _ _ (by omega) (by omega)), h8.2⟩, ?_⟩ (by rw [← hz]; simp [up_at])
  · obtain ⟨g1, g2, g3, g4⟩ := h7 i hi
    have k1 : RgIs σ1 i (C i).2.2.2.1 := g1.fr (z _ _ (by omega) (by omega)) (fun k => ⟨z _ _ (by omega) (by omega), z _ _ (by omega) (by omega)⟩)
    have k4 : ((C i).2.2.1 = -1 ∧ σ1 9 5 i = 0) ∨ ((36 ≤ (C i).2.2.1 ∧ (C i).2.2.1 ≤ 60) ∧ (0 ≤ (C i).1 ∧ (C i).1 ≤ 6) ∧ (-1 ≤ (C i).2.1 ∧ (C i).2.1 ≤ 1) ∧ σ1 9 5 i = (C i).2.2.1 ∧ σ1 9 6 i = (C i).1 ∧ σ1 9 7 i = (C i).2.1 ∧ (C i).2.2.1 % 12 = cls (C i).1 (C i).2.1) := by
      rcases g4 with g4 | g4
      · exact Or.inl ⟨g4.1, (z _ _ (by omega) (by omega)).trans g4.2⟩
      · exact Or.inr ⟨g4.1, g4.2.1, g4.2.2.1, (z _ _ (by omega) (by omega)).trans g4.2.2.2.1, (z _ _ (by omega) (by omega)).trans g4.2.2.2.2.1, (z _ _ (by omega) (by omega)).trans g4.2.2.2.2.2.1, g4.2.2.2.2.2.2⟩
    unfold upc
    by_cases hic : i = c
    · rw [if_pos hic]
      subst hic
      refine ⟨k1, g2, fun u u0 u1 => ?_, k4⟩
      have := g3 u u0 u1
      rw [z26 i hi u u0 u1]
      by_cases huv : u = v
      · rw [if_pos ⟨rfl, huv⟩]
        dsimp only
        rw [if_pos huv]
        exact ⟨rfl, hs⟩
      · rw [if_neg (fun q => huv q.2)]
        dsimp only
        rw [if_neg huv]
        exact this
    · rw [if_neg hic]
      refine ⟨k1, g2, fun u u0 u1 => ?_, k4⟩
      rw [z26 i hi u u0 u1, if_neg (fun q => hic q.1)]
      exact g3 u u0 u1
  · cases W with
    | none => exact (z _ _ (by omega) (by omega)).trans h9
    | some w =>
      generalize hC' : upc C c ((C c).1, (C c).2.1, (C c).2.2.1, (C c).2.2.2.1, fun u => if u = v then s else (C c).2.2.2.2 u) = C'
      have c1 : ∀ i, (C' i).1 = (C i).1 ∧ (C' i).2.1 = (C i).2.1 ∧ (C' i).2.2.1 = (C i).2.2.1 ∧ (C' i).2.2.2.1 = (C i).2.2.2.1 := by
        intro i
        rw [← hC']
        unfold upc
        by_cases hic : i = c
        · rw [if_pos hic]
          subst hic
          exact ⟨rfl, rfl, rfl, rfl⟩
        · rw [if_neg hic]
          exact ⟨rfl, rfl, rfl, rfl⟩
      have ct : ∀ i, chT f (C' i) = chT f (C i) := fun i => by
        obtain ⟨a1, a2, a3, a4⟩ := c1 i
        unfold chT
        rw [a1, a2, a4]
      have ec : ∀ i p, ¬ p = -1 → sdP f (C' i) p = sdP f (C i) p := by
        intro i p hp
        obtain ⟨a1, a2, a3, a4⟩ := c1 i
        have e : chP f (C' i) = chP f (C i) := by
          unfold chP
          rw [ct, a3, a4]
        funext u
        unfold sdP
        rw [if_neg hp, if_neg hp, a3, e]
      have ef : ∀ i p, ¬ p = -1 → feP f mi (C' i) p = feP f mi (C i) p := fun i p hp => by
        unfold feP
        rw [ec i p hp, ct, (c1 i).2.2.2]
      have ed : ∀ i j p r, ¬ p = -1 → ¬ r = -1 → dsP f (C' i) (C' j) p r = dsP f (C i) (C j) p r := fun i j p r hp hr => by
        unfold dsP
        rw [ec i p hp, ec j r hr]
      refine ⟨(z _ _ (by omega) (by omega)).trans h9.1, fun i hi => ?_⟩
      obtain ⟨w0, w1, w2⟩ := h9.2 i hi
      refine ⟨w0, fun u u0 u1 => ?_, ?_⟩
      · rw [z _ _ (by omega) (by omega), ec i _ (by omega)]
        exact w1 u u0 u1
      · rw [z _ _ (by omega) (by omega), w2]
        unfold shr fP dP
        by_cases hi0 : i = 0
        · rw [if_pos hi0, if_pos hi0, ef i _ (by omega)]
        · have wj := (h9.2 (i - 1) (by omega)).1
          rw [if_neg hi0, if_neg hi0, ef i _ (by omega), ed _ _ _ _ (by omega) (by omega)]
theorem q_pupil1 (h : RI σ f mi n C W L) (hx : (a < 0 ∨ 7 < a) ∨ (v < 0 ∨ 2 < v) ∨ s < 0 ∨ 127 < s) (r1 : -2147483648 ≤ a ∧ a ≤ 2147483647) (r2 : -2147483648 ≤ v ∧ v ≤ 2147483647) (r3 : -2147483648 ≤ s ∧ s ≤ 2147483647) (q : ∀ σ', RI σ' f mi n C W L → σ' 9 0 0 = 1 → Q (.inl none) σ') : Wm (d + 1) 120 [vr 9 0, vi a, vi v, vi s] σ Q := by
  have e1 : up σ 9 0 0 1 9 0 0 = 1 := by simp [up_at]
  have key : Wx (d + 1) 120 28 [some (vr 9 0), some (vi a), some (vi v), some (vi s)] [vr 9 0] σ Q := by
    simp (disch := first | omega | simp) only [u120_0, u120_1, u120_2, u120_3, u120_6, u120_9, u120_10, u120_13, u120_14, u120_15, u120_18, u120_19, u120_22, u120_23, u120_25, u120_28, u120_29, u120_32, u120_33, u120_36, u120_37, u120_40, u120_43, u120_44, u120_47, u120_48, u120_49, u120_50, u120_51, u120_52, u120_53, u120_54, o_9_0, fv_9_0_0, rf_9_0_0, fv_9_0_1, fv_9_0_2, fv_9_0_3, fv_9_0_4, fv_9_0_5, rf_9_0_5, fv_9_0_6, rf_9_0_6, fv_9_0_7, rf_9_0_7, fv_9_0_8, fv_9_0_9, fv_9_0_10, fv_9_0_11, fv_9_0_12, fv_9_0_13, fv_9_0_14, rf_9_0_14, fv_9_0_15, fv_9_0_16, fv_9_0_17, rf_9_0_17, fv_9_0_18, fv_9_0_19, fv_9_0_20, rf_9_0_20, fv_9_0_21, rf_9_0_21, fv_9_0_22, rf_9_0_22, fv_9_0_23, fv_9_0_24, fv_9_0_25, fv_9_0_26, fv_9_0_27, fv_9_0_28, fv_9_0_29, fv_9_0_30, fv_9_0_31, fv_9_0_32, rf_9_0_32, fv_9_0_33, fv_9_0_34, fv_9_0_35, fv_9_0_36, rf_9_0_36, fv_9_0_37, fv_9_0_38, fv_9_0_39, fv_9_0_40, fv_9_0_41, ia_9_1, is_9_1, ia_9_2, is_9_2, ia_9_3, is_9_3, ia_9_4, is_9_4, ia_9_5, is_9_5, ia_9_6, is_9_6, ia_9_7, is_9_7, ia_9_8, is_9_8, ia_9_9, is_9_9, ia_9_10, is_9_10, ia_9_11, is_9_11, ia_9_12, is_9_12, ia_9_13, is_9_13, ia_9_14, is_9_14, ia_9_15, is_9_15, ia_9_16, is_9_16, ia_9_17, is_9_17, ia_9_18, is_9_18, ia_9_19, is_9_19, ia_9_20, is_9_20, ia_9_21, is_9_21, ia_9_22, is_9_22, ia_9_24, is_9_24, ia_9_25, is_9_25, ia_9_26, is_9_26, ia_9_27, is_9_27, ia_9_28, is_9_28, ia_9_29, is_9_29, ia_9_30, is_9_30, ia_9_31, is_9_31, iz_9_23, e1, Li_s, Lr_s, Ll_s, On_s, lget, lset, clr_i, clr_r, clr_n, Kc_i, Kc_v, Kc_x, true_and, and_true, List.length_cons, List.length_nil, nlg, isLn, List.all_cons, List.all_nil, Bool.and_true, Bool.not_false, Nat.zero_le, Nat.reduceAdd, Nat.reduceLeDiff, ↓reduceIte, Int.reduceLT, Int.reduceLE, Int.reduceAdd, Int.reduceSub, Int.reduceMul, Int.reduceNeg, Int.reduceToNat, Int.reduceEq, not_true_eq_false, not_false_eq_true, Int.toNat_zero, true_or, or_true]
    exact q _ (h.wk (Fr.wr (by simp [frWk]))) e1
  rw [e120]
  simp (disch := first | omega | simp) only [u120_0, u120_1, u120_2, u120_3, u120_6, u120_9, u120_10, u120_13, u120_14, u120_15, u120_18, u120_19, u120_22, u120_23, u120_25, u120_28, u120_29, u120_32, u120_33, u120_36, u120_37, u120_40, u120_43, u120_44, u120_47, u120_48, u120_49, u120_50, u120_51, u120_52, u120_53, u120_54, o_9_0, fv_9_0_0, rf_9_0_0, fv_9_0_1, fv_9_0_2, fv_9_0_3, fv_9_0_4, fv_9_0_5, rf_9_0_5, fv_9_0_6, rf_9_0_6, fv_9_0_7, rf_9_0_7, fv_9_0_8, fv_9_0_9, fv_9_0_10, fv_9_0_11, fv_9_0_12, fv_9_0_13, fv_9_0_14, rf_9_0_14, fv_9_0_15, fv_9_0_16, fv_9_0_17, rf_9_0_17, fv_9_0_18, fv_9_0_19, fv_9_0_20, rf_9_0_20, fv_9_0_21, rf_9_0_21, fv_9_0_22, rf_9_0_22, fv_9_0_23, fv_9_0_24, fv_9_0_25, fv_9_0_26, fv_9_0_27, fv_9_0_28, fv_9_0_29, fv_9_0_30, fv_9_0_31, fv_9_0_32, rf_9_0_32, fv_9_0_33, fv_9_0_34, fv_9_0_35, fv_9_0_36, rf_9_0_36, fv_9_0_37, fv_9_0_38, fv_9_0_39, fv_9_0_40, fv_9_0_41, ia_9_1, is_9_1, ia_9_2, is_9_2, ia_9_3, is_9_3, ia_9_4, is_9_4, ia_9_5, is_9_5, ia_9_6, is_9_6, ia_9_7, is_9_7, ia_9_8, is_9_8, ia_9_9, is_9_9, ia_9_10, is_9_10, ia_9_11, is_9_11, ia_9_12, is_9_12, ia_9_13, is_9_13, ia_9_14, is_9_14, ia_9_15, is_9_15, ia_9_16, is_9_16, ia_9_17, is_9_17, ia_9_18, is_9_18, ia_9_19, is_9_19, ia_9_20, is_9_20, ia_9_21, is_9_21, ia_9_22, is_9_22, ia_9_24, is_9_24, ia_9_25, is_9_25, ia_9_26, is_9_26, ia_9_27, is_9_27, ia_9_28, is_9_28, ia_9_29, is_9_29, ia_9_30, is_9_30, ia_9_31, is_9_31, iz_9_23, Li_s, Lr_s, Ll_s, On_s, lget, lset, clr_i, clr_r, clr_n, Kc_i, Kc_v, Kc_x, true_and, and_true, List.length_cons, List.length_nil, nlg, isLn, List.all_cons, List.all_nil, Bool.and_true, Bool.not_false, Nat.zero_le, Nat.reduceAdd, Nat.reduceLeDiff, ↓reduceIte, Int.reduceLT, Int.reduceLE, Int.reduceAdd, Int.reduceSub, Int.reduceMul, Int.reduceNeg, Int.reduceToNat, Int.reduceEq, not_true_eq_false, not_false_eq_true, Int.toNat_zero, true_or, or_true]
  rw [(r_noChord r1).iff]
  by_cases g1 : a < 0 ∨ 7 < a
  · rw [if_pos g1]
    simp (disch := first | omega | simp) only [u120_0, u120_1, u120_2, u120_3, u120_6, u120_9, u120_10, u120_13, u120_14, u120_15, u120_18, u120_19, u120_22, u120_23, u120_25, u120_29, u120_32, u120_33, u120_36, u120_37, u120_40, u120_43, u120_44, u120_47, u120_48, u120_49, u120_50, u120_51, u120_52, u120_53, u120_54, o_9_0, fv_9_0_0, rf_9_0_0, fv_9_0_1, fv_9_0_2, fv_9_0_3, fv_9_0_4, fv_9_0_5, rf_9_0_5, fv_9_0_6, rf_9_0_6, fv_9_0_7, rf_9_0_7, fv_9_0_8, fv_9_0_9, fv_9_0_10, fv_9_0_11, fv_9_0_12, fv_9_0_13, fv_9_0_14, rf_9_0_14, fv_9_0_15, fv_9_0_16, fv_9_0_17, rf_9_0_17, fv_9_0_18, fv_9_0_19, fv_9_0_20, rf_9_0_20, fv_9_0_21, rf_9_0_21, fv_9_0_22, rf_9_0_22, fv_9_0_23, fv_9_0_24, fv_9_0_25, fv_9_0_26, fv_9_0_27, fv_9_0_28, fv_9_0_29, fv_9_0_30, fv_9_0_31, fv_9_0_32, rf_9_0_32, fv_9_0_33, fv_9_0_34, fv_9_0_35, fv_9_0_36, rf_9_0_36, fv_9_0_37, fv_9_0_38, fv_9_0_39, fv_9_0_40, fv_9_0_41, ia_9_1, is_9_1, ia_9_2, is_9_2, ia_9_3, is_9_3, ia_9_4, is_9_4, ia_9_5, is_9_5, ia_9_6, is_9_6, ia_9_7, is_9_7, ia_9_8, is_9_8, ia_9_9, is_9_9, ia_9_10, is_9_10, ia_9_11, is_9_11, ia_9_12, is_9_12, ia_9_13, is_9_13, ia_9_14, is_9_14, ia_9_15, is_9_15, ia_9_16, is_9_16, ia_9_17, is_9_17, ia_9_18, is_9_18, ia_9_19, is_9_19, ia_9_20, is_9_20, ia_9_21, is_9_21, ia_9_22, is_9_22, ia_9_24, is_9_24, ia_9_25, is_9_25, ia_9_26, is_9_26, ia_9_27, is_9_27, ia_9_28, is_9_28, ia_9_29, is_9_29, ia_9_30, is_9_30, ia_9_31, is_9_31, iz_9_23, Li_s, Lr_s, Ll_s, On_s, lget, lset, clr_i, clr_r, clr_n, Kc_i, Kc_v, Kc_x, true_and, and_true, List.length_cons, List.length_nil, nlg, isLn, List.all_cons, List.all_nil, Bool.and_true, Bool.not_false, Nat.zero_le, Nat.reduceAdd, Nat.reduceLeDiff, ↓reduceIte, Int.reduceLT, Int.reduceLE, Int.reduceAdd, Int.reduceSub, Int.reduceMul, Int.reduceNeg, Int.reduceToNat, Int.reduceEq, not_true_eq_false, not_false_eq_true, Int.toNat_zero, true_or, or_true]
    exact key
  · rw [if_neg g1]
    simp (disch := first | omega | simp) only [u120_0, u120_1, u120_2, u120_3, u120_6, u120_9, u120_10, u120_13, u120_14, u120_15, u120_18, u120_19, u120_22, u120_23, u120_25, u120_29, u120_33, u120_36, u120_37, u120_40, u120_43, u120_44, u120_47, u120_48, u120_49, u120_50, u120_51, u120_52, u120_53, u120_54, o_9_0, fv_9_0_0, rf_9_0_0, fv_9_0_1, fv_9_0_2, fv_9_0_3, fv_9_0_4, fv_9_0_5, rf_9_0_5, fv_9_0_6, rf_9_0_6, fv_9_0_7, rf_9_0_7, fv_9_0_8, fv_9_0_9, fv_9_0_10, fv_9_0_11, fv_9_0_12, fv_9_0_13, fv_9_0_14, rf_9_0_14, fv_9_0_15, fv_9_0_16, fv_9_0_17, rf_9_0_17, fv_9_0_18, fv_9_0_19, fv_9_0_20, rf_9_0_20, fv_9_0_21, rf_9_0_21, fv_9_0_22, rf_9_0_22, fv_9_0_23, fv_9_0_24, fv_9_0_25, fv_9_0_26, fv_9_0_27, fv_9_0_28, fv_9_0_29, fv_9_0_30, fv_9_0_31, fv_9_0_32, rf_9_0_32, fv_9_0_33, fv_9_0_34, fv_9_0_35, fv_9_0_36, rf_9_0_36, fv_9_0_37, fv_9_0_38, fv_9_0_39, fv_9_0_40, fv_9_0_41, ia_9_1, is_9_1, ia_9_2, is_9_2, ia_9_3, is_9_3, ia_9_4, is_9_4, ia_9_5, is_9_5, ia_9_6, is_9_6, ia_9_7, is_9_7, ia_9_8, is_9_8, ia_9_9, is_9_9, ia_9_10, is_9_10, ia_9_11, is_9_11, ia_9_12, is_9_12, ia_9_13, is_9_13, ia_9_14, is_9_14, ia_9_15, is_9_15, ia_9_16, is_9_16, ia_9_17, is_9_17, ia_9_18, is_9_18, ia_9_19, is_9_19, ia_9_20, is_9_20, ia_9_21, is_9_21, ia_9_22, is_9_22, ia_9_24, is_9_24, ia_9_25, is_9_25, ia_9_26, is_9_26, ia_9_27, is_9_27, ia_9_28, is_9_28, ia_9_29, is_9_29, ia_9_30, is_9_30, ia_9_31, is_9_31, iz_9_23, Li_s, Lr_s, Ll_s, On_s, lget, lset, clr_i, clr_r, clr_n, Kc_i, Kc_v, Kc_x, true_and, and_true, List.length_cons, List.length_nil, nlg, isLn, List.all_cons, List.all_nil, Bool.and_true, Bool.not_false, Nat.zero_le, Nat.reduceAdd, Nat.reduceLeDiff, ↓reduceIte, Int.reduceLT, Int.reduceLE, Int.reduceAdd, Int.reduceSub, Int.reduceMul, Int.reduceNeg, Int.reduceToNat, Int.reduceEq, not_true_eq_false, not_false_eq_true, Int.toNat_zero, true_or, or_true]
    by_cases g2 : v < 0
    · rw [if_pos g2]
      exact key
    · rw [if_neg g2]
      by_cases g3 : 2 < v
      · rw [if_pos g3]
        exact key
      · rw [if_neg g3]
        by_cases g4 : s < 0
        · rw [if_pos g4]
          exact key
        · rw [if_neg g4, if_neg (by omega)]
          exact key
end RB
