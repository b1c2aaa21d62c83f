/-! THE REFERENCE: lookAll, first half: are all whole -/
section LA
variable {d : Nat} {σ σ' : Sg} {c : Nat} {f mi : Int} {n : Nat} {C : Nat → Cho} {W : Option (Nat → Int)} {L : List Flt} {g : Int} {Q : Rs → Sg → Prop}
theorem w_isWholeI (hc : c < 8) (h : RI σ f mi n C W L) (k : ∀ σ', RI σ' f mi n C W L → Q (.inl (some (vi (whC f (C c))))) σ') : Wm (d + 5) 92 [vr 9 0, vi (c : Int)] σ Q := by
  by_cases hb : (C c).2.2.1 = -1
  · have hb0 : σ 9 5 c = 0 := by
      rcases (h.2.2.2.2.2.2.2.1 c hc).2.2.2 with q | q
      · exact q.2
      · have := q.1
        omega
    rw [(r_isWhole0 (d := d + 4) hc hb0).iff]
    have e : whC f (C c) = 0 := by
      unfold whC
      rw [if_pos hb]
    rw [e] at k
    exact k σ h
  · obtain ⟨r1, r2, r3⟩ := h.rc hc hb
    refine w_isWhole hc r1 (by omega) (fun σ2 hL hF => ?_)
    have e : whC f (C c) = whl (tns f (C c).1 (C c).2.1 (ful (C c).2.2.2.1)) := by
      unfold whC
      rw [if_neg hb]
    rw [← e]
    exact k σ2 (h.lk hF)
theorem l_la1 : ∀ (r i : Nat) (y : Int) (σ1 : Sg) (x : Option Va), i + r = n → RI σ1 f mi n C W L → (y = 0 ∨ y = 1) → (∀ σ' y' z, RI σ' f mi n C W L → ((y = 1 ∧ alW f C r i) → y' = 1) → (¬ (y = 1 ∧ alW f C r i) → y' = 0) → Wx (d + 6) 99 36 [some (vr 9 0), some (vi g), some (vi y'), z, x] [] σ' Q) → Wx (d + 6) 99 4 [some (vr 9 0), some (vi g), some (vi y), some (vi (i : Int)), x] [] σ1 Q := by
  intro r
  induction r with
  | zero =>
    intro i y σ1 x h1 h hy k
    have e0 := h.2.2.2.2.2.2.1
    have hn := h.2.2.2.1
    rw [u99_4]
    simp (disch := first | omega | simp) only [u99_0, u99_1, u99_2, u99_3, u99_5, u99_6, u99_9, u99_12, u99_13, u99_16, u99_17, u99_18, u99_21, u99_24, u99_25, u99_28, u99_29, u99_30, u99_33, u99_37, u99_38, u99_39, u99_40, u99_43, u99_46, u99_47, u99_50, u99_51, u99_52, u99_55, u99_56, u99_58, u99_60, u99_62, u99_65, u99_66, u99_69, u99_71, u99_72, u99_73, u99_75, u99_76, u99_77, u99_78, u99_81, u99_84, u99_85, u99_87, u99_89, u99_90, u99_93, u99_96, u99_97, u99_100, u99_102, u99_103, u99_104, u99_105, u99_108, u99_110, u99_111, u99_112, u99_113, u99_116, u99_118, u99_119, u99_120, u99_123, u99_126, u99_127, u99_130, u99_131, u99_132, u99_135, u99_136, u99_137, u99_140, u99_141, u99_142, u99_145, u99_146, u99_147, u99_150, u99_151, u99_152, u99_155, u99_158, u99_161, u99_162, o_9_0, fv_9_0_0, rf_9_0_0, fv_9_0_1, fv_9_0_2, fv_9_0_3, fv_9_0_4, fv_9_0_5, rf_9_0_5, fv_9_0_6, rf_9_0_6, fv_9_0_7, rf_9_0_7, fv_9_0_8, fv_9_0_9, fv_9_0_10, fv_9_0_11, fv_9_0_12, fv_9_0_13, fv_9_0_14, rf_9_0_14, fv_9_0_15, fv_9_0_16, fv_9_0_17, rf_9_0_17, fv_9_0_18, fv_9_0_19, fv_9_0_20, rf_9_0_20, fv_9_0_21, rf_9_0_21, fv_9_0_22, rf_9_0_22, fv_9_0_23, fv_9_0_24, fv_9_0_25, fv_9_0_26, fv_9_0_27, fv_9_0_28, fv_9_0_29, fv_9_0_30, fv_9_0_31, fv_9_0_32, rf_9_0_32, fv_9_0_33, fv_9_0_34, fv_9_0_35, fv_9_0_36, rf_9_0_36, fv_9_0_37, fv_9_0_38, fv_9_0_39, fv_9_0_40, fv_9_0_41, ia_9_1, is_9_1, ia_9_2, is_9_2, ia_9_3, is_9_3, ia_9_4, is_9_4, ia_9_5, is_9_5, ia_9_6, is_9_6, ia_9_7, is_9_7, ia_9_8, is_9_8, ia_9_9, is_9_9, ia_9_10, is_9_10, ia_9_11, is_9_11, ia_9_12, is_9_12, ia_9_13, is_9_13, ia_9_14, is_9_14, ia_9_15, is_9_15, ia_9_16, is_9_16, ia_9_17, is_9_17, ia_9_18, is_9_18, ia_9_19, is_9_19, ia_9_20, is_9_20, ia_9_21, is_9_21, ia_9_22, is_9_22, ia_9_24, is_9_24, ia_9_25, is_9_25, ia_9_26, is_9_26, ia_9_27, is_9_27, ia_9_28, is_9_28, ia_9_29, is_9_29, ia_9_30, is_9_30, ia_9_31, is_9_31, iz_9_23, e0, Li_s, Lr_s, Ll_s, On_s, lget, lset, clr_i, clr_r, clr_n, Kc_i, Kc_v, Kc_x, true_and, and_true, List.length_cons, List.length_nil, nlg, isLn, List.all_cons, List.all_nil, Bool.and_true, Bool.not_false, Nat.zero_le, Nat.reduceAdd, Nat.reduceLeDiff, ↓reduceIte, Int.reduceLT, Int.reduceLE, Int.reduceAdd, Int.reduceSub, Int.reduceMul, Int.reduceNeg, Int.reduceToNat, Int.reduceEq, not_true_eq_false, not_false_eq_true, Int.toNat_zero, true_or, or_true]
    rw [if_pos (by omega)]
    refine k σ1 y _ h (fun q => q.1) (fun q => ?_)
    by_cases g0 : y = 0
    · exact g0
    · exact absurd ⟨by omega, trivial⟩ q
  | succ r ih =>
    intro i y σ1 x h1 h hy k
    have e0 := h.2.2.2.2.2.2.1
    have hn := h.2.2.2.1
    have key : ∀ (y2 : Int) (σ2 : Sg), RI σ2 f mi n C W L → (y2 = 0 ∨ y2 = 1) → (y2 = 1 ↔ (y = 1 ∧ ¬ whC f (C i) = 0)) → Wx (d + 6) 99 29 [some (vr 9 0), some (vi g), some (vi y), some (vi (i : Int)), x] [vi y2] σ2 Q := by
      intro y2 σ2 h2 hy2 he
      simp (disch := first | omega | simp) only [u99_0, u99_1, u99_2, u99_3, u99_5, u99_6, u99_9, u99_12, u99_13, u99_16, u99_17, u99_18, u99_21, u99_24, u99_25, u99_28, u99_29, u99_30, u99_33, u99_37, u99_38, u99_39, u99_40, u99_43, u99_46, u99_47, u99_50, u99_51, u99_52, u99_55, u99_56, u99_58, u99_60, u99_62, u99_65, u99_66, u99_69, u99_71, u99_72, u99_73, u99_75, u99_76, u99_77, u99_78, u99_81, u99_84, u99_85, u99_87, u99_89, u99_90, u99_93, u99_96, u99_97, u99_100, u99_102, u99_103, u99_104, u99_105, u99_108, u99_110, u99_111, u99_112, u99_113, u99_116, u99_118, u99_119, u99_120, u99_123, u99_126, u99_127, u99_130, u99_131, u99_132, u99_135, u99_136, u99_137, u99_140, u99_141, u99_142, u99_145, u99_146, u99_147, u99_150, u99_151, u99_152, u99_155, u99_158, u99_161, u99_162, o_9_0, fv_9_0_0, rf_9_0_0, fv_9_0_1, fv_9_0_2, fv_9_0_3, fv_9_0_4, fv_9_0_5, rf_9_0_5, fv_9_0_6, rf_9_0_6, fv_9_0_7, rf_9_0_7, fv_9_0_8, fv_9_0_9, fv_9_0_10, fv_9_0_11, fv_9_0_12, fv_9_0_13, fv_9_0_14, rf_9_0_14, fv_9_0_15, fv_9_0_16, fv_9_0_17, rf_9_0_17, fv_9_0_18, fv_9_0_19, fv_9_0_20, rf_9_0_20, fv_9_0_21, rf_9_0_21, fv_9_0_22, rf_9_0_22, fv_9_0_23, fv_9_0_24, fv_9_0_25, fv_9_0_26, fv_9_0_27, fv_9_0_28, fv_9_0_29, fv_9_0_30, fv_9_0_31, fv_9_0_32, rf_9_0_32, fv_9_0_33, fv_9_0_34, fv_9_0_35, fv_9_0_36, rf_9_0_36, fv_9_0_37, fv_9_0_38, fv_9_0_39, fv_9_0_40, fv_9_0_41, ia_9_1, is_9_1, ia_9_2, is_9_2, ia_9_3, is_9_3, ia_9_4, is_9_4, ia_9_5, is_9_5, ia_9_6, is_9_6, ia_9_7, is_9_7, ia_9_8, is_9_8, ia_9_9, is_9_9, ia_9_10, is_9_10, ia_9_11, is_9_11, ia_9_12, is_9_12, ia_9_13, is_9_13, ia_9_14, is_9_14, ia_9_15, is_9_15, ia_9_16, is_9_16, ia_9_17, is_9_17, ia_9_18, is_9_18, ia_9_19, is_9_19, ia_9_20, is_9_20, ia_9_21, is_9_21, ia_9_22, is_9_22, ia_9_24, is_9_24, ia_9_25, is_9_25, ia_9_26, is_9_26, ia_9_27, is_9_27, ia_9_28, is_9_28, ia_9_29, is_9_29, ia_9_30, is_9_30, ia_9_31, is_9_31, iz_9_23, Li_s, Lr_s, Ll_s, On_s, lget, lset, clr_i, clr_r, clr_n, Kc_i, Kc_v, Kc_x, true_and, and_true, List.length_cons, List.length_nil, nlg, isLn, List.all_cons, List.all_nil, Bool.and_true, Bool.not_false, Nat.zero_le, Nat.reduceAdd, Nat.reduceLeDiff, ↓reduceIte, Int.reduceLT, Int.reduceLE, Int.reduceAdd, Int.reduceSub, Int.reduceMul, Int.reduceNeg, Int.reduceToNat, Int.reduceEq, not_true_eq_false, not_false_eq_true, Int.toNat_zero, true_or, or_true]
      rw [show (i : Int) + 1 = ((i + 1 : Nat) : Int) by omega]
      refine ih (i + 1) y2 σ2 x (by omega) h2 hy2 (fun σ3 y3 z3 h3 q1 q2 => ?_)
      refine k σ3 y3 z3 h3 (fun q => q1 ⟨he.mpr ⟨q.1, q.2.1⟩, q.2.2⟩) (fun q => q2 (fun p => q ⟨(he.mp p.1).1, (he.mp p.1).2, p.2⟩))
    rw [u99_4]
    simp (disch := first | omega | simp) only [u99_0, u99_1, u99_2, u99_3, u99_5, u99_6, u99_9, u99_12, u99_13, u99_16, u99_17, u99_18, u99_21, u99_24, u99_25, u99_28, u99_30, u99_33, u99_37, u99_38, u99_39, u99_40, u99_43, u99_46, u99_47, u99_50, u99_51, u99_52, u99_55, u99_56, u99_58, u99_60, u99_62, u99_65, u99_66, u99_69, u99_71, u99_72, u99_73, u99_75, u99_76, u99_77, u99_78, u99_81, u99_84, u99_85, u99_87, u99_89, u99_90, u99_93, u99_96, u99_97, u99_100, u99_102, u99_103, u99_104, u99_105, u99_108, u99_110, u99_111, u99_112, u99_113, u99_116, u99_118, u99_119, u99_120, u99_123, u99_126, u99_127, u99_130, u99_131, u99_132, u99_135, u99_136, u99_137, u99_140, u99_141, u99_142, u99_145, u99_146, u99_147, u99_150, u99_151, u99_152, u99_155, u99_158, u99_161, u99_162, o_9_0, fv_9_0_0, rf_9_0_0, fv_9_0_1, fv_9_0_2, fv_9_0_3, fv_9_0_4, fv_9_0_5, rf_9_0_5, fv_9_0_6, rf_9_0_6, fv_9_0_7, rf_9_0_7, fv_9_0_8, fv_9_0_9, fv_9_0_10, fv_9_0_11, fv_9_0_12, fv_9_0_13, fv_9_0_14, rf_9_0_14, fv_9_0_15, fv_9_0_16, fv_9_0_17, rf_9_0_17, fv_9_0_18, fv_9_0_19, fv_9_0_20, rf_9_0_20, fv_9_0_21, rf_9_0_21, fv_9_0_22, rf_9_0_22, fv_9_0_23, fv_9_0_24, fv_9_0_25, fv_9_0_26, fv_9_0_27, fv_9_0_28, fv_9_0_29, fv_9_0_30, fv_9_0_31, fv_9_0_32, rf_9_0_32, fv_9_0_33, fv_9_0_34, fv_9_0_35, fv_9_0_36, rf_9_0_36, fv_9_0_37, fv_9_0_38, fv_9_0_39, fv_9_0_40, fv_9_0_41, ia_9_1, is_9_1, ia_9_2, is_9_2, ia_9_3, is_9_3, ia_9_4, is_9_4, ia_9_5, is_9_5, ia_9_6, is_9_6, ia_9_7, is_9_7, ia_9_8, is_9_8, ia_9_9, is_9_9, ia_9_10, is_9_10, ia_9_11, is_9_11, ia_9_12, is_9_12, ia_9_13, is_9_13, ia_9_14, is_9_14, ia_9_15, is_9_15, ia_9_16, is_9_16, ia_9_17, is_9_17, ia_9_18, is_9_18, ia_9_19, is_9_19, ia_9_20, is_9_20, ia_9_21, is_9_21, ia_9_22, is_9_22, ia_9_24, is_9_24, ia_9_25, is_9_25, ia_9_26, is_9_26, ia_9_27, is_9_27, ia_9_28, is_9_28, ia_9_29, is_9_29, ia_9_30, is_9_30, ia_9_31, is_9_31, iz_9_23, e0, Li_s, Lr_s, Ll_s, On_s, lget, lset, clr_i, clr_r, clr_n, Kc_i, Kc_v, Kc_x, true_and, and_true, List.length_cons, List.length_nil, nlg, isLn, List.all_cons, List.all_nil, Bool.and_true, Bool.not_false, Nat.zero_le, Nat.reduceAdd, Nat.reduceLeDiff, ↓reduceIte, Int.reduceLT, Int.reduceLE, Int.reduceAdd, Int.reduceSub, Int.reduceMul, Int.reduceNeg, Int.reduceToNat, Int.reduceEq, not_true_eq_false, not_false_eq_true, Int.toNat_zero, true_or, or_true]
    rw [if_neg (by omega)]
    by_cases g0 : y = 0
    · rw [if_pos g0]
      exact key 0 σ1 h (Or.inl rfl) ⟨fun q => by omega, fun q => by omega⟩
    · rw [if_neg g0]
      refine w_isWholeI (by omega) h (fun σ2 h2 => ?_)
      have w1 := whC_in f (C i)
      simp (disch := first | omega | simp) only [u99_0, u99_1, u99_2, u99_3, u99_5, u99_6, u99_9, u99_12, u99_13, u99_16, u99_17, u99_18, u99_21, u99_24, u99_25, u99_28, u99_30, u99_33, u99_37, u99_38, u99_39, u99_40, u99_43, u99_46, u99_47, u99_50, u99_51, u99_52, u99_55, u99_56, u99_58, u99_60, u99_62, u99_65, u99_66, u99_69, u99_71, u99_72, u99_73, u99_75, u99_76, u99_77, u99_78, u99_81, u99_84, u99_85, u99_87, u99_89, u99_90, u99_93, u99_96, u99_97, u99_100, u99_102, u99_103, u99_104, u99_105, u99_108, u99_110, u99_111, u99_112, u99_113, u99_116, u99_118, u99_119, u99_120, u99_123, u99_126, u99_127, u99_130, u99_131, u99_132, u99_135, u99_136, u99_137, u99_140, u99_141, u99_142, u99_145, u99_146, u99_147, u99_150, u99_151, u99_152, u99_155, u99_158, u99_161, u99_162, o_9_0, fv_9_0_0, rf_9_0_0, fv_9_0_1, fv_9_0_2, fv_9_0_3, fv_9_0_4, fv_9_0_5, rf_9_0_5, fv_9_0_6, rf_9_0_6, fv_9_0_7, rf_9_0_7, fv_9_0_8, fv_9_0_9, fv_9_0_10, fv_9_0_11, fv_9_0_12, fv_9_0_13, fv_9_0_14, rf_9_0_14, fv_9_0_15, fv_9_0_16, fv_9_0_17, rf_9_0_17, fv_9_0_18, fv_9_0_19, fv_9_0_20, rf_9_0_20, fv_9_0_21, rf_9_0_21, fv_9_0_22, rf_9_0_22, fv_9_0_23, fv_9_0_24, fv_9_0_25, fv_9_0_26, fv_9_0_27, fv_9_0_28, fv_9_0_29, fv_9_0_30, fv_9_0_31, fv_9_0_32, rf_9_0_32, fv_9_0_33, fv_9_0_34, fv_9_0_35, fv_9_0_36, rf_9_0_36, fv_9_0_37, fv_9_0_38, fv_9_0_39, fv_9_0_40, fv_9_0_41, ia_9_1, is_9_1, ia_9_2, is_9_2, ia_9_3, is_9_3, ia_9_4, is_9_4, ia_9_5, is_9_5, ia_9_6, is_9_6, ia_9_7, is_9_7, ia_9_8, is_9_8, ia_9_9, is_9_9, ia_9_10, is_9_10, ia_9_11, is_9_11, ia_9_12, is_9_12, ia_9_13, is_9_13, ia_9_14, is_9_14, ia_9_15, is_9_15, ia_9_16, is_9_16, ia_9_17, is_9_17, ia_9_18, is_9_18, ia_9_19, is_9_19, ia_9_20, is_9_20, ia_9_21, is_9_21, ia_9_22, is_9_22, ia_9_24, is_9_24, ia_9_25, is_9_25, ia_9_26, is_9_26, ia_9_27, is_9_27, ia_9_28, is_9_28, ia_9_29, is_9_29, ia_9_30, is_9_30, ia_9_31, is_9_31, iz_9_23, Li_s, Lr_s, Ll_s, On_s, lget, lset, clr_i, clr_r, clr_n, Kc_i, Kc_v, Kc_x, true_and, and_true, List.length_cons, List.length_nil, nlg, isLn, List.all_cons, List.all_nil, Bool.and_true, Bool.not_false, Nat.zero_le, Nat.reduceAdd, Nat.reduceLeDiff, ↓reduceIte, Int.reduceLT, Int.reduceLE, Int.reduceAdd, Int.reduceSub, Int.reduceMul, Int.reduceNeg, Int.reduceToNat, Int.reduceEq, not_true_eq_false, not_false_eq_true, Int.toNat_zero, true_or, or_true]
      by_cases g1 : whC f (C i) = 0
      · rw [if_pos g1]
        exact key 0 σ2 h2 (Or.inl rfl) ⟨fun q => by omega, fun q => absurd g1 q.2⟩
      · rw [if_neg g1]
        exact key 1 σ2 h2 (Or.inr rfl) ⟨fun _ => ⟨by omega, g1⟩, fun _ => rfl⟩
end LA
