/-! ROWS OF FIGURES: the class's side. A row is a list of figures (number, sign). -/
abbrev Fg : Type := List (Int × Int)
/-- the memory holds the row L in the object (c, r), r = 1: as written, r = 4: spelled out -/
def RowIs (σ : Sg) (c r : Nat) : Fg → Prop
  | [] => σ c r 2 = 0
  | [p] => σ c r 2 = 1 ∧ σ c (r + 1) 0 = p.1 ∧ σ c (r + 2) 0 = p.2
  | [p, q] => σ c r 2 = 2 ∧ σ c (r + 1) 0 = p.1 ∧ σ c (r + 2) 0 = p.2 ∧ σ c (r + 1) 1 = q.1 ∧ σ c (r + 2) 1 = q.2
  | [p, q, w] => σ c r 2 = 3 ∧ σ c (r + 1) 0 = p.1 ∧ σ c (r + 2) 0 = p.2 ∧ σ c (r + 1) 1 = q.1 ∧ σ c (r + 2) 1 = q.2 ∧ σ c (r + 1) 2 = w.1 ∧ σ c (r + 2) 2 = w.2
  | _ => False
/-- numbers and signs as figures have them -/
def FgOk (L : Fg) : Prop := ∀ p ∈ L, 2 ≤ p.1 ∧ p.1 ≤ 9 ∧ 0 ≤ p.2 ∧ p.2 ≤ 3
def idxF : Fg → Int → Int → Int
  | [], _, _ => -1
  | p :: t, n, i => if p.1 = n then i else idxF t n (i + 1)
/-- where a number stands in the row, or -1 -/
def idx (L : Fg) (n : Int) : Int := idxF L n 0
/-- the sign of a number in the row, or 0 -/
def sgn : Fg → Int → Int
  | [], _ => 0
  | p :: t, n => if p.1 = n then p.2 else sgn t n
def dig (L : Fg) : Int := L.foldl (fun a p => a * 10 + p.1) 0
/-- the long row's digits -/
def lng (D : Int) : Int := if 0 = D then 53 else if 3 = D then 53 else if 6 = D then 63 else if 7 = D then 753 else if 65 = D then 653 else if 43 = D then 643 else if 2 = D then 642 else if 42 = D then 642 else if 4 = D then 54 else D
section RW
variable {d : Nat} {σ : Sg} {c r : Nat} {L : Fg} {n s : Int}
theorem r_indexOf (hc : c < 8) (hr : r = 1 ∨ r = 4) (h : RowIs σ c r L) (ho : FgOk L) (hn : -2147483648 ≤ n ∧ n ≤ 2147483647) : Rn d 23 [vr c r, vi n] σ (.inl (some (vi (idx L n)))) σ := by
  refine Rn.of ?_
  rw [e23]
  rcases L with _ | ⟨⟨p1, p2⟩, _ | ⟨⟨q1, q2⟩, _ | ⟨⟨w1, w2⟩, _ | ⟨x, t⟩⟩⟩⟩
  · have h0 : σ c r 2 = 0 := h
    rcases hr with rfl | rfl
    · simp (disch := omega) only [u23_0, u23_1, u23_2, u23_3, u23_4, u23_7, u23_10, u23_11, u23_14, u23_15, u23_16, u23_17, u23_20, u23_21, u23_22, u23_25, u23_28, u23_29, o_c0, fv_c0_0, fv_c0_1, fv_c0_2, fv_c0_3, fv_c0_4, fv_c0_5, fv_c0_6, fv_c0_7, rf_c0_7, fv_c0_8, rf_c0_8, fv_c0_9, rf_c0_9, fv_c0_10, rf_c0_10, fv_c0_11, rf_c0_11, fv_c0_12, rf_c0_12, fv_c0_13, rf_c0_13, fv_c0_14, rf_c0_14, fv_c0_15, rf_c0_15, fv_c0_16, rf_c0_16, fv_c0_17, rf_c0_17, o_c1, fv_c1_0, fv_c1_1, fv_c1_2, rf_c1_2, o_c4, fv_c4_0, fv_c4_1, fv_c4_2, rf_c4_2, ia_c2, is_c2, ia_c3, is_c3, ia_c5, is_c5, ia_c6, is_c6, ia_c7, is_c7, ia_c8, is_c8, ia_c9, is_c9, ia_c10, is_c10, ia_c11, is_c11, h0, Li_s, Lr_s, Ll_s, On_s, lget, lset, clr_i, clr_r, clr_n, Kc_i, Kc_v, Kc_x, true_and, and_true, List.length_cons, List.length_nil, nlg, isLn, List.all_cons, List.all_nil, Bool.and_true, Bool.not_false, Nat.zero_le, Nat.reduceAdd, Nat.reduceLeDiff, ↓reduceIte, Int.reduceLT, Int.reduceLE, Int.reduceAdd, Int.reduceSub, Int.reduceMul, Int.reduceNeg, Int.reduceToNat, Int.reduceEq, not_true_eq_false, not_false_eq_true, Int.toNat_zero]
      rfl
    · simp (disch := omega) only [u23_0, u23_1, u23_2, u23_3, u23_4, u23_7, u23_10, u23_11, u23_14, u23_15, u23_16, u23_17, u23_20, u23_21, u23_22, u23_25, u23_28, u23_29, o_c0, fv_c0_0, fv_c0_1, fv_c0_2, fv_c0_3, fv_c0_4, fv_c0_5, fv_c0_6, fv_c0_7, rf_c0_7, fv_c0_8, rf_c0_8, fv_c0_9, rf_c0_9, fv_c0_10, rf_c0_10, fv_c0_11, rf_c0_11, fv_c0_12, rf_c0_12, fv_c0_13, rf_c0_13, fv_c0_14, rf_c0_14, fv_c0_15, rf_c0_15, fv_c0_16, rf_c0_16, fv_c0_17, rf_c0_17, o_c1, fv_c1_0, fv_c1_1, fv_c1_2, rf_c1_2, o_c4, fv_c4_0, fv_c4_1, fv_c4_2, rf_c4_2, ia_c2, is_c2, ia_c3, is_c3, ia_c5, is_c5, ia_c6, is_c6, ia_c7, is_c7, ia_c8, is_c8, ia_c9, is_c9, ia_c10, is_c10, ia_c11, is_c11, h0, Li_s, Lr_s, Ll_s, On_s, lget, lset, clr_i, clr_r, clr_n, Kc_i, Kc_v, Kc_x, true_and, and_true, List.length_cons, List.length_nil, nlg, isLn, List.all_cons, List.all_nil, Bool.and_true, Bool.not_false, Nat.zero_le, Nat.reduceAdd, Nat.reduceLeDiff, ↓reduceIte, Int.reduceLT, Int.reduceLE, Int.reduceAdd, Int.reduceSub, Int.reduceMul, Int.reduceNeg, Int.reduceToNat, Int.reduceEq, not_true_eq_false, not_false_eq_true, Int.toNat_zero]
      rfl
  · have o1 : 2 ≤ p1 ∧ p1 ≤ 9 := ⟨(ho (p1, p2) (by simp)).1, (ho (p1, p2) (by simp)).2.1⟩
    obtain ⟨h0, h1, -⟩ := h
    rcases hr with rfl | rfl
    · simp (disch := omega) only [u23_0, u23_1, u23_2, u23_3, u23_4, u23_7, u23_10, u23_11, u23_14, u23_15, u23_16, u23_17, u23_20, u23_21, u23_22, u23_25, u23_28, u23_29, o_c0, fv_c0_0, fv_c0_1, fv_c0_2, fv_c0_3, fv_c0_4, fv_c0_5, fv_c0_6, fv_c0_7, rf_c0_7, fv_c0_8, rf_c0_8, fv_c0_9, rf_c0_9, fv_c0_10, rf_c0_10, fv_c0_11, rf_c0_11, fv_c0_12, rf_c0_12, fv_c0_13, rf_c0_13, fv_c0_14, rf_c0_14, fv_c0_15, rf_c0_15, fv_c0_16, rf_c0_16, fv_c0_17, rf_c0_17, o_c1, fv_c1_0, fv_c1_1, fv_c1_2, rf_c1_2, o_c4, fv_c4_0, fv_c4_1, fv_c4_2, rf_c4_2, ia_c2, is_c2, ia_c3, is_c3, ia_c5, is_c5, ia_c6, is_c6, ia_c7, is_c7, ia_c8, is_c8, ia_c9, is_c9, ia_c10, is_c10, ia_c11, is_c11, h0, h1, Li_s, Lr_s, Ll_s, On_s, lget, lset, clr_i, clr_r, clr_n, Kc_i, Kc_v, Kc_x, true_and, and_true, List.length_cons, List.length_nil, nlg, isLn, List.all_cons, List.all_nil, Bool.and_true, Bool.not_false, Nat.zero_le, Nat.reduceAdd, Nat.reduceLeDiff, ↓reduceIte, Int.reduceLT, Int.reduceLE, Int.reduceAdd, Int.reduceSub, Int.reduceMul, Int.reduceNeg, Int.reduceToNat, Int.reduceEq, not_true_eq_false, not_false_eq_true, Int.toNat_zero]
      simp only [idx, idxF]
      repeat' split
      all_goals simp_all
    · simp (disch := omega) only [u23_0, u23_1, u23_2, u23_3, u23_4, u23_7, u23_10, u23_11, u23_14, u23_15, u23_16, u23_17, u23_20, u23_21, u23_22, u23_25, u23_28, u23_29, o_c0, fv_c0_0, fv_c0_1, fv_c0_2, fv_c0_3, fv_c0_4, fv_c0_5, fv_c0_6, fv_c0_7, rf_c0_7, fv_c0_8, rf_c0_8, fv_c0_9, rf_c0_9, fv_c0_10, rf_c0_10, fv_c0_11, rf_c0_11, fv_c0_12, rf_c0_12, fv_c0_13, rf_c0_13, fv_c0_14, rf_c0_14, fv_c0_15, rf_c0_15, fv_c0_16, rf_c0_16, fv_c0_17, rf_c0_17, o_c1, fv_c1_0, fv_c1_1, fv_c1_2, rf_c1_2, o_c4, fv_c4_0, fv_c4_1, fv_c4_2, rf_c4_2, ia_c2, is_c2, ia_c3, is_c3, ia_c5, is_c5, ia_c6, is_c6, ia_c7, is_c7, ia_c8, is_c8, ia_c9, is_c9, ia_c10, is_c10, ia_c11, is_c11, h0, h1, Li_s, Lr_s, Ll_s, On_s, lget, lset, clr_i, clr_r, clr_n, Kc_i, Kc_v, Kc_x, true_and, and_true, List.length_cons, List.length_nil, nlg, isLn, List.all_cons, List.all_nil, Bool.and_true, Bool.not_false, Nat.zero_le, Nat.reduceAdd, Nat.reduceLeDiff, ↓reduceIte, Int.reduceLT, Int.reduceLE, Int.reduceAdd, Int.reduceSub, Int.reduceMul, Int.reduceNeg, Int.reduceToNat, Int.reduceEq, not_true_eq_false, not_false_eq_true, Int.toNat_zero]
      simp only [idx, idxF]
      repeat' split
      all_goals simp_all
  · have o1 : 2 ≤ p1 ∧ p1 ≤ 9 := ⟨(ho (p1, p2) (by simp)).1, (ho (p1, p2) (by simp)).2.1⟩
    have o2 : 2 ≤ q1 ∧ q1 ≤ 9 := ⟨(ho (q1, q2) (by simp)).1, (ho (q1, q2) (by simp)).2.1⟩
    obtain ⟨h0, h1, -, h2, -⟩ := h
    rcases hr with rfl | rfl
    · simp (disch := omega) only [u23_0, u23_1, u23_2, u23_3, u23_4, u23_7, u23_10, u23_11, u23_14, u23_15, u23_16, u23_17, u23_20, u23_21, u23_22, u23_25, u23_28, u23_29, o_c0, fv_c0_0, fv_c0_1, fv_c0_2, fv_c0_3, fv_c0_4, fv_c0_5, fv_c0_6, fv_c0_7, rf_c0_7, fv_c0_8, rf_c0_8, fv_c0_9, rf_c0_9, fv_c0_10, rf_c0_10, fv_c0_11, rf_c0_11, fv_c0_12, rf_c0_12, fv_c0_13, rf_c0_13, fv_c0_14, rf_c0_14, fv_c0_15, rf_c0_15, fv_c0_16, rf_c0_16, fv_c0_17, rf_c0_17, o_c1, fv_c1_0, fv_c1_1, fv_c1_2, rf_c1_2, o_c4, fv_c4_0, fv_c4_1, fv_c4_2, rf_c4_2, ia_c2, is_c2, ia_c3, is_c3, ia_c5, is_c5, ia_c6, is_c6, ia_c7, is_c7, ia_c8, is_c8, ia_c9, is_c9, ia_c10, is_c10, ia_c11, is_c11, h0, h1, h2, Li_s, Lr_s, Ll_s, On_s, lget, lset, clr_i, clr_r, clr_n, Kc_i, Kc_v, Kc_x, true_and, and_true, List.length_cons, List.length_nil, nlg, isLn, List.all_cons, List.all_nil, Bool.and_true, Bool.not_false, Nat.zero_le, Nat.reduceAdd, Nat.reduceLeDiff, ↓reduceIte, Int.reduceLT, Int.reduceLE, Int.reduceAdd, Int.reduceSub, Int.reduceMul, Int.reduceNeg, Int.reduceToNat, Int.reduceEq, not_true_eq_false, not_false_eq_true, Int.toNat_zero]
      simp only [idx, idxF]
      repeat' split
      all_goals simp_all
    · simp (disch := omega) only [u23_0, u23_1, u23_2, u23_3, u23_4, u23_7, u23_10, u23_11, u23_14, u23_15, u23_16, u23_17, u23_20, u23_21, u23_22, u23_25, u23_28, u23_29, o_c0, fv_c0_0, fv_c0_1, fv_c0_2, fv_c0_3, fv_c0_4, fv_c0_5, fv_c0_6, fv_c0_7, rf_c0_7, fv_c0_8, rf_c0_8, fv_c0_9, rf_c0_9, fv_c0_10, rf_c0_10, fv_c0_11, rf_c0_11, fv_c0_12, rf_c0_12, fv_c0_13, rf_c0_13, fv_c0_14, rf_c0_14, fv_c0_15, rf_c0_15, fv_c0_16, rf_c0_16, fv_c0_17, rf_c0_17, o_c1, fv_c1_0, fv_c1_1, fv_c1_2, rf_c1_2, o_c4, fv_c4_0, fv_c4_1, fv_c4_2, rf_c4_2, ia_c2, is_c2, ia_c3, is_c3, ia_c5, is_c5, ia_c6, is_c6, ia_c7, is_c7, ia_c8, is_c8, ia_c9, is_c9, ia_c10, is_c10, ia_c11, is_c11, h0, h1, h2, Li_s, Lr_s, Ll_s, On_s, lget, lset, clr_i, clr_r, clr_n, Kc_i, Kc_v, Kc_x, true_and, and_true, List.length_cons, List.length_nil, nlg, isLn, List.all_cons, List.all_nil, Bool.and_true, Bool.not_false, Nat.zero_le, Nat.reduceAdd, Nat.reduceLeDiff, ↓reduceIte, Int.reduceLT, Int.reduceLE, Int.reduceAdd, Int.reduceSub, Int.reduceMul, Int.reduceNeg, Int.reduceToNat, Int.reduceEq, not_true_eq_false, not_false_eq_true, Int.toNat_zero]
      simp only [idx, idxF]
      repeat' split
      all_goals simp_all
  · have o1 : 2 ≤ p1 ∧ p1 ≤ 9 := ⟨(ho (p1, p2) (by simp)).1, (ho (p1, p2) (by simp)).2.1⟩
    have o2 : 2 ≤ q1 ∧ q1 ≤ 9 := ⟨(ho (q1, q2) (by simp)).1, (ho (q1, q2) (by simp)).2.1⟩
    have o3 : 2 ≤ w1 ∧ w1 ≤ 9 := ⟨(ho (w1, w2) (by simp)).1, (ho (w1, w2) (by simp)).2.1⟩
    obtain ⟨h0, h1, -, h2, -, h3, -⟩ := h
    rcases hr with rfl | rfl
    · simp (disch := omega) only [u23_0, u23_1, u23_2, u23_3, u23_4, u23_7, u23_10, u23_11, u23_14, u23_15, u23_16, u23_17, u23_20, u23_21, u23_22, u23_25, u23_28, u23_29, o_c0, fv_c0_0, fv_c0_1, fv_c0_2, fv_c0_3, fv_c0_4, fv_c0_5, fv_c0_6, fv_c0_7, rf_c0_7, fv_c0_8, rf_c0_8, fv_c0_9, rf_c0_9, fv_c0_10, rf_c0_10, fv_c0_11, rf_c0_11, fv_c0_12, rf_c0_12, fv_c0_13, rf_c0_13, fv_c0_14, rf_c0_14, fv_c0_15, rf_c0_15, fv_c0_16, rf_c0_16, fv_c0_17, rf_c0_17, o_c1, fv_c1_0, fv_c1_1, fv_c1_2, rf_c1_2, o_c4, fv_c4_0, fv_c4_1, fv_c4_2, rf_c4_2, ia_c2, is_c2, ia_c3, is_c3, ia_c5, is_c5, ia_c6, is_c6, ia_c7, is_c7, ia_c8, is_c8, ia_c9, is_c9, ia_c10, is_c10, ia_c11, is_c11, h0, h1, h2, h3, Li_s, Lr_s, Ll_s, On_s, lget, lset, clr_i, clr_r, clr_n, Kc_i, Kc_v, Kc_x, true_and, and_true, List.length_cons, List.length_nil, nlg, isLn, List.all_cons, List.all_nil, Bool.and_true, Bool.not_false, Nat.zero_le, Nat.reduceAdd, Nat.reduceLeDiff, ↓reduceIte, Int.reduceLT, Int.reduceLE, Int.reduceAdd, Int.reduceSub, Int.reduceMul, Int.reduceNeg, Int.reduceToNat, Int.reduceEq, not_true_eq_false, not_false_eq_true, Int.toNat_zero]
      simp only [idx, idxF]
      repeat' split
      all_goals simp_all
    · simp (disch := omega) only [u23_0, u23_1, u23_2, u23_3, u23_4, u23_7, u23_10, u23_11, u23_14, u23_15, u23_16, u23_17, u23_20, u23_21, u23_22, u23_25, u23_28, u23_29, o_c0, fv_c0_0, fv_c0_1, fv_c0_2, fv_c0_3, fv_c0_4, fv_c0_5, fv_c0_6, fv_c0_7, rf_c0_7, fv_c0_8, rf_c0_8, fv_c0_9, rf_c0_9, fv_c0_10, rf_c0_10, fv_c0_11, rf_c0_11, fv_c0_12, rf_c0_12, fv_c0_13, rf_c0_13, fv_c0_14, rf_c0_14, fv_c0_15, rf_c0_15, fv_c0_16, rf_c0_16, fv_c0_17, rf_c0_17, o_c1, fv_c1_0, fv_c1_1, fv_c1_2, rf_c1_2, o_c4, fv_c4_0, fv_c4_1, fv_c4_2, rf_c4_2, ia_c2, is_c2, ia_c3, is_c3, ia_c5, is_c5, ia_c6, is_c6, ia_c7, is_c7, ia_c8, is_c8, ia_c9, is_c9, ia_c10, is_c10, ia_c11, is_c11, h0, h1, h2, h3, Li_s, Lr_s, Ll_s, On_s, lget, lset, clr_i, clr_r, clr_n, Kc_i, Kc_v, Kc_x, true_and, and_true, List.length_cons, List.length_nil, nlg, isLn, List.all_cons, List.all_nil, Bool.and_true, Bool.not_false, Nat.zero_le, Nat.reduceAdd, Nat.reduceLeDiff, ↓reduceIte, Int.reduceLT, Int.reduceLE, Int.reduceAdd, Int.reduceSub, Int.reduceMul, Int.reduceNeg, Int.reduceToNat, Int.reduceEq, not_true_eq_false, not_false_eq_true, Int.toNat_zero]
      simp only [idx, idxF]
      repeat' split
      all_goals simp_all
  · exact h.elim
end RW
