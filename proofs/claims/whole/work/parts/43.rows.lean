/-! ROWS OF FIGURES: the class's side. A row is a list of figures (number, sign). -/
abbrev Fg : Type := List (Int × Int)
/-- the memory holds the row L in the object (c, r), r = 1: as written, r = 4: spelled out -/
def RowIs (σ : Sg) (c r : Nat) : Fg → Prop
  | [] => σ c r 2 = 0
  | [p] => σ c r 2 = 1 ∧ σ c (r + 1) 0 = p.1 ∧ σ c (r + 2) 0 = p.2
  | [p, q] => σ c r 2 = 2 ∧ σ c (r + 1) 0 = p.1 ∧ σ c (r + 2) 0 = p.2 ∧ σ c (r + 1) 1 = q.1 ∧ σ c (r + 2) 1 = q.2
  | [p, q, w] => σ c r 2 = 3 ∧ σ c (r + 1) 0 = p.1 ∧ σ c (r + 2) 0 = p.2 ∧ σ c (r + 1) 1 = q.1 ∧ σ c (r + 2) 1 = q.2 ∧ σ c (r + 1) 2 = w.1 ∧ σ c (r + 2) 2 = w.2
  | _ => False
/-- numbers and signs as figures have them -/
def FgOk (L : Fg) : Prop := ∀ p ∈ L, 2 ≤ p.1 ∧ p.1 ≤ 9 ∧ 0 ≤ p.2 ∧ p.2 ≤ 3
def idxF : Fg → Int → Int → Int
  | [], _, _ => -1
  | p :: t, n, i => if p.1 = n then i else idxF t n (i + 1)
/-- where a number stands in the row, or -1 -/
def idx (L : Fg) (n : Int) : Int := idxF L n 0
/-- the sign of a number in the row, or 0 -/
def sgn : Fg → Int → Int
  | [], _ => 0
  | p :: t, n => if p.1 = n then p.2 else sgn t n
def dig (L : Fg) : Int := L.foldl (fun a p => a * 10 + p.1) 0
/-- the long row's digits -/
def lng (D : Int) : Int := if 0 = D then 53 else if 3 = D then 53 else if 6 = D then 63 else if 7 = D then 753 else if 65 = D then 653 else if 43 = D then 643 else if 2 = D then 642 else if 42 = D then 642 else if 4 = D then 54 else D
section RW
variable {d : Nat} {σ : Sg} {c r : Nat} {L : Fg} {n s : Int}
theorem r_indexOf (hc : c < 8) (hr : r = 1 ∨ r = 4) (h : RowIs σ c r L) (ho : FgOk L) (hn : -2147483648 ≤ n ∧ n ≤ 2147483647) : Rn d 23 [vr c r, vi n] σ (.inl (some (vi (idx L n)))) σ := by
  refine Rn.of ?_
  rw [e23]
  rcases L with _ | ⟨⟨p1, p2⟩, _ | ⟨⟨q1, q2⟩, _ | ⟨⟨w1, w2⟩, _ | ⟨x, t⟩⟩⟩⟩
  · have h0 : σ c r 2 = 0 := h
    rcases hr with rfl | rfl
    · simp (disch := omega) only [u23_0, u23_1, u23_2, u23_3, u23_4, u23_7, u23_10, u23_11, u23_14, u23_15, u23_16, u23_17, u23_20, u23_21, u23_22, u23_25, u23_28, u23_29, o_c0, fv_c0_0, fv_c0_1, fv_c0_2, fv_c0_3, fv_c0_4, fv_c0_5, fv_c0_6, fv_c0_7, rf_c0_7, fv_c0_8, rf_c0_8, fv_c0_9, rf_c0_9, fv_c0_10, rf_c0_10, fv_c0_11, rf_c0_11, fv_c0_12, rf_c0_12, fv_c0_13, rf_c0_13, fv_c0_14, rf_c0_14, fv_c0_15, rf_c0_15, fv_c0_16, rf_c0_16, fv_c0_17, rf_c0_17, o_c1, fv_c1_0, fv_c1_1, fv_c1_2, rf_c1_2, o_c4, fv_c4_0, fv_c4_1, fv_c4_2, rf_c4_2, ia_c2, is_c2, ia_c3, is_c3, ia_c5, is_c5, ia_c6, is_c6, ia_c7, is_c7, ia_c8, is_c8, ia_c9, is_c9, ia_c10, is_c10, ia_c11, is_c11, h0, Li_s, Lr_s, Ll_s, On_s, lget, lset, clr_i, clr_r, clr_n, Kc_i, Kc_v, Kc_x, true_and, and_true, List.length_cons, List.length_nil, nlg, isLn, List.all_cons, List.all_nil, Bool.and_true, Bool.not_false, Nat.zero_le, Nat.reduceAdd, Nat.reduceLeDiff, ↓reduceIte, Int.reduceLT, Int.reduceLE, Int.reduceAdd, Int.reduceSub, Int.reduceMul, Int.reduceNeg, Int.reduceToNat, Int.reduceEq, not_true_eq_false, not_false_eq_true, Int.toNat_zero]
      rfl
    · simp (disch := omega) only [u23_0, u23_1, u23_2, u23_3, u23_4, u23_7, u23_10, u23_11, u23_14, u23_15, u23_16, u23_17, u23_20, u23_21, u23_22, u23_25, u23_28, u23_29, o_c0, fv_c0_0, fv_c0_1, fv_c0_2, fv_c0_3, fv_c0_4, fv_c0_5, fv_c0_6, fv_c0_7, rf_c0_7, fv_c0_8, rf_c0_8, fv_c0_9, rf_c0_9, fv_c0_10, rf_c0_10, fv_c0_11, rf_c0_11, fv_c0_12, rf_c0_12, fv_c0_13, rf_c0_13, fv_c0_14, rf_c0_14, fv_c0_15, rf_c0_15, fv_c0_16, rf_c0_16, fv_c0_17, rf_c0_17, o_c1, fv_c1_0, fv_c1_1, fv_c1_2, rf_c1_2, o_c4, fv_c4_0, fv_c4_1, fv_c4_2, rf_c4_2, ia_c2, is_c2, ia_c3, is_c3, ia_c5, is_c5, ia_c6, is_c6, ia_c7, is_c7, ia_c8, is_c8, ia_c9, is_c9, ia_c10, is_c10, ia_c11, is_c11, h0, Li_s, Lr_s, Ll_s, On_s, lget, lset, clr_i, clr_r, clr_n, Kc_i, Kc_v, Kc_x, true_and, and_true, List.length_cons, List.length_nil, nlg, isLn, List.all_cons, List.all_nil, Bool.and_true, Bool.not_false, Nat.zero_le, Nat.reduceAdd, Nat.reduceLeDiff, ↓reduceIte, Int.reduceLT, Int.reduceLE, Int.reduceAdd, Int.reduceSub, Int.reduceMul, Int.reduceNeg, Int.reduceToNat, Int.reduceEq, not_true_eq_false, not_false_eq_true, Int.toNat_zero]
      rfl
  · have o1 : 2 ≤ p1 ∧ p1 ≤ 9 := ⟨(ho (p1, p2) (by simp)).1, (ho (p1, p2) (by simp)).2.1⟩
    obtain ⟨h0, h1, -⟩ := h
    rcases hr with rfl | rfl
    · simp (disch := omega) only [u23_0, u23_1, u23_2, u23_3, u23_4, u23_7, u23_10, u23_11, u23_14, u23_15, u23_16, u23_17, u23_20, u23_21, u23_22, u23_25, u23_28, u23_29, o_c0, fv_c0_0, fv_c0_1, fv_c0_2, fv_c0_3, fv_c0_4, fv_c0_5, fv_c0_6, fv_c0_7, rf_c0_7, fv_c0_8, rf_c0_8, fv_c0_9, rf_c0_9, fv_c0_10, rf_c0_10, fv_c0_11, rf_c0_11, fv_c0_12, rf_c0_12, fv_c0_13, rf_c0_13, fv_c0_14, rf_c0_14, fv_c0_15, rf_c0_15, fv_c0_16, rf_c0_16, fv_c0_17, rf_c0_17, o_c1, fv_c1_0, fv_c1_1, fv_c1_2, rf_c1_2, o_c4, fv_c4_0, fv_c4_1, fv_c4_2, rf_c4_2, ia_c2, is_c2, ia_c3, is_c3, ia_c5, is_c5, ia_c6, is_c6, ia_c7, is_c7, ia_c8, is_c8, ia_c9, is_c9, ia_c10, is_c10, ia_c11, is_c11, h0, h1, Li_s, Lr_s, Ll_s, On_s, lget, lset, clr_i, clr_r, clr_n, Kc_i, Kc_v, Kc_x, true_and, and_true, List.length_cons, List.length_nil, nlg, isLn, List.all_cons, List.all_nil, Bool.and_true, Bool.not_false, Nat.zero_le, Nat.reduceAdd, Nat.reduceLeDiff, ↓reduceIte, Int.reduceLT, Int.reduceLE, Int.reduceAdd, Int.reduceSub, Int.reduceMul, Int.reduceNeg, Int.reduceToNat, Int.reduceEq, not_true_eq_false, not_false_eq_true, Int.toNat_zero]
      simp only [idx, idxF]
      repeat' split
      all_goals simp_all
    · simp (disch := omega) only [u23_0, u23_1, u23_2, u23_3, u23_4, u23_7, u23_10, u23_11, u23_14, u23_15, u23_16, u23_17, u23_20, u23_21, u23_22, u23_25, u23_28, u23_29, o_c0, fv_c0_0, fv_c0_1, fv_c0_2, fv_c0_3, fv_c0_4, fv_c0_5, fv_c0_6, fv_c0_7, rf_c0_7, fv_c0_8, rf_c0_8, fv_c0_9, rf_c0_9, fv_c0_10, rf_c0_10, fv_c0_11, rf_c0_11, fv_c0_12, rf_c0_12, fv_c0_13, rf_c0_13, fv_c0_14, rf_c0_14, fv_c0_15, rf_c0_15, fv_c0_16, rf_c0_16, fv_c0_17, rf_c0_17, o_c1, fv_c1_0, fv_c1_1, fv_c1_2, rf_c1_2, o_c4, fv_c4_0, fv_c4_1, fv_c4_2, rf_c4_2, ia_c2, is_c2, ia_c3, is_c3, ia_c5, is_c5, ia_c6, is_c6, ia_c7, is_c7, ia_c8, is_c8, ia_c9, is_c9, ia_c10, is_c10, ia_c11, is_c11, h0, h1, Li_s, Lr_s, Ll_s, On_s, lget, lset, clr_i, clr_r, clr_n, Kc_i, Kc_v, Kc_x, true_and, and_true, List.length_cons, List.length_nil, nlg, isLn, List.all_cons, List.all_nil, Bool.and_true, Bool.not_false, Nat.zero_le, Nat.reduceAdd, Nat.reduceLeDiff, ↓reduceIte, Int.reduceLT, Int.reduceLE, Int.reduceAdd, Int.reduceSub, Int.reduceMul, Int.reduceNeg, Int.reduceToNat, Int.reduceEq, not_true_eq_false, not_false_eq_true, Int.toNat_zero]
      simp only [idx, idxF]
      repeat' split
      all_goals simp_all
  · have o1 : 2 ≤ p1 ∧ p1 ≤ 9 := ⟨(ho (p1, p2) (by simp)).1, (ho (p1, p2) (by simp)).2.1⟩
    have o2 : 2 ≤ q1 ∧ q1 ≤ 9 := ⟨(ho (q1, q2) (by simp)).1, (ho (q1, q2) (by simp)).2.1⟩
    obtain ⟨h0, h1, -, h2, -⟩ := h
    rcases hr with rfl | rfl
    · simp (disch := omega) only [u23_0, u23_1, u23_2, u23_3, u23_4, u23_7, u23_10, u23_11, u23_14, u23_15, u23_16, u23_17, u23_20, u23_21, u23_22, u23_25, u23_28, u23_29, o_c0, fv_c0_0, fv_c0_1, fv_c0_2, fv_c0_3, fv_c0_4, fv_c0_5, fv_c0_6, fv_c0_7, rf_c0_7, fv_c0_8, rf_c0_8, fv_c0_9, rf_c0_9, fv_c0_10, rf_c0_10, fv_c0_11, rf_c0_11, fv_c0_12, rf_c0_12, fv_c0_13, rf_c0_13, fv_c0_14, rf_c0_14, fv_c0_15, rf_c0_15, fv_c0_16, rf_c0_16, fv_c0_17, rf_c0_17, o_c1, fv_c1_0, fv_c1_1, fv_c1_2, rf_c1_2, o_c4, fv_c4_0, fv_c4_1, fv_c4_2, rf_c4_2, ia_c2, is_c2, ia_c3, is_c3, ia_c5, is_c5, ia_c6, is_c6, ia_c7, is_c7, ia_c8, is_c8, ia_c9, is_c9, ia_c10, is_c10, ia_c11, is_c11, h0, h1, h2, Li_s, Lr_s, Ll_s, On_s, lget, lset, clr_i, clr_r, clr_n, Kc_i, Kc_v, Kc_x, true_and, and_true, List.length_cons, List.length_nil, nlg, isLn, List.all_cons, List.all_nil, Bool.and_true, Bool.not_false, Nat.zero_le, Nat.reduceAdd, Nat.reduceLeDiff, ↓reduceIte, Int.reduceLT, Int.reduceLE, Int.reduceAdd, Int.reduceSub, Int.reduceMul, Int.reduceNeg, Int.reduceToNat, Int.reduceEq, not_true_eq_false, not_false_eq_true, Int.toNat_zero]
      simp only [idx, idxF]
      repeat' split
      all_goals simp_all
    · simp (disch := omega) only [u23_0, u23_1, u23_2, u23_3, u23_4, u23_7, u23_10, u23_11, u23_14, u23_15, u23_16, u23_17, u23_20, u23_21, u23_22, u23_25, u23_28, u23_29, o_c0, fv_c0_0, fv_c0_1, fv_c0_2, fv_c0_3, fv_c0_4, fv_c0_5, fv_c0_6, fv_c0_7, rf_c0_7, fv_c0_8, rf_c0_8, fv_c0_9, rf_c0_9, fv_c0_10, rf_c0_10, fv_c0_11, rf_c0_11, fv_c0_12, rf_c0_12, fv_c0_13, rf_c0_13, fv_c0_14, rf_c0_14, fv_c0_15, rf_c0_15, fv_c0_16, rf_c0_16, fv_c0_17, rf_c0_17, o_c1, fv_c1_0, fv_c1_1, fv_c1_2, rf_c1_2, o_c4, fv_c4_0, fv_c4_1, fv_c4_2, rf_c4_2, ia_c2, is_c2, ia_c3, is_c3, ia_c5, is_c5, ia_c6, is_c6, ia_c7, is_c7, ia_c8, is_c8, ia_c9, is_c9, ia_c10, is_c10, ia_c11, is_c11, h0, h1, h2, Li_s, Lr_s, Ll_s, On_s, lget, lset, clr_i, clr_r, clr_n, Kc_i, Kc_v, Kc_x, true_and, and_true, List.length_cons, List.length_nil, nlg, isLn, List.all_cons, List.all_nil, Bool.and_true, Bool.not_false, Nat.zero_le, Nat.reduceAdd, Nat.reduceLeDiff, ↓reduceIte, Int.reduceLT, Int.reduceLE, Int.reduceAdd, Int.reduceSub, Int.reduceMul, Int.reduceNeg, Int.reduceToNat, Int.reduceEq, not_true_eq_false, not_false_eq_true, Int.toNat_zero]
      simp only [idx, idxF]
      repeat' split
      all_goals simp_all
  · have o1 : 2 ≤ p1 ∧ p1 ≤ 9 := ⟨(ho (p1, p2) (by simp)).1, (ho (p1, p2) (by simp)).2.1⟩
    have o2 : 2 ≤ q1 ∧ q1 ≤ 9 := ⟨(ho (q1, q2) (by simp)).1, (ho (q1, q2) (by simp)).2.1⟩
    have o3 : 2 ≤ w1 ∧ w1 ≤ 9 := ⟨(ho (w1, w2) (by simp)).1, (ho (w1, w2) (by simp)).2.1⟩
    obtain ⟨h0, h1, -, h2, -, h3, -⟩ := h
    rcases hr with rfl | rfl
    · simp (disch := omega) only [u23_0, u23_1, u23_2, u23_3, u23_4, u23_7, u23_10, u23_11, u23_14, u23_15, u23_16, u23_17, u23_20, u23_21, u23_22, u23_25, u23_28, u23_29, o_c0, fv_c0_0, fv_c0_1, fv_c0_2, fv_c0_3, fv_c0_4, fv_c0_5, fv_c0_6, fv_c0_7, rf_c0_7, fv_c0_8, rf_c0_8, fv_c0_9, rf_c0_9, fv_c0_10, rf_c0_10, fv_c0_11, rf_c0_11, fv_c0_12, rf_c0_12, fv_c0_13, rf_c0_13, fv_c0_14, rf_c0_14, fv_c0_15, rf_c0_15, fv_c0_16, rf_c0_16, fv_c0_17, rf_c0_17, o_c1, fv_c1_0, fv_c1_1, fv_c1_2, rf_c1_2, o_c4, fv_c4_0, fv_c4_1, fv_c4_2, rf_c4_2, ia_c2, is_c2, ia_c3, is_c3, ia_c5, is_c5, ia_c6, is_c6, ia_c7, is_c7, ia_c8, is_c8, ia_c9, is_c9, ia_c10, is_c10, ia_c11, is_c11, h0, h1, h2, h3, Li_s, Lr_s, Ll_s, On_s, lget, lset, clr_i, clr_r, clr_n, Kc_i, Kc_v, Kc_x, true_and, and_true, List.length_cons, List.length_nil, nlg, isLn, List.all_cons, List.all_nil, Bool.and_true, Bool.not_false, Nat.zero_le, Nat.reduceAdd, Nat.reduceLeDiff, ↓reduceIte, Int.reduceLT, Int.reduceLE, Int.reduceAdd, Int.reduceSub, Int.reduceMul, Int.reduceNeg, Int.reduceToNat, Int.reduceEq, not_true_eq_false, not_false_eq_true, Int.toNat_zero]
      simp only [idx, idxF]
      repeat' split
      all_goals simp_all
    · simp (disch := omega) only [u23_0, u23_1, u23_2, u23_3, u23_4, u23_7, u23_10, u23_11, u23_14, u23_15, u23_16, u23_17, u23_20, u23_21, u23_22, u23_25, u23_28, u23_29, o_c0, fv_c0_0, fv_c0_1, fv_c0_2, fv_c0_3, fv_c0_4, fv_c0_5, fv_c0_6, fv_c0_7, rf_c0_7, fv_c0_8, rf_c0_8, fv_c0_9, rf_c0_9, fv_c0_10, rf_c0_10, fv_c0_11, rf_c0_11, fv_c0_12, rf_c0_12, fv_c0_13, rf_c0_13, fv_c0_14, rf_c0_14, fv_c0_15, rf_c0_15, fv_c0_16, rf_c0_16, fv_c0_17, rf_c0_17, o_c1, fv_c1_0, fv_c1_1, fv_c1_2, rf_c1_2, o_c4, fv_c4_0, fv_c4_1, fv_c4_2, rf_c4_2, ia_c2, is_c2, ia_c3, is_c3, ia_c5, is_c5, ia_c6, is_c6, ia_c7, is_c7, ia_c8, is_c8, ia_c9, is_c9, ia_c10, is_c10, ia_c11, is_c11, h0, h1, h2, h3, Li_s, Lr_s, Ll_s, On_s, lget, lset, clr_i, clr_r, clr_n, Kc_i, Kc_v, Kc_x, true_and, and_true, List.length_cons, List.length_nil, nlg, isLn, List.all_cons, List.all_nil, Bool.and_true, Bool.not_false, Nat.zero_le, Nat.reduceAdd, Nat.reduceLeDiff, ↓reduceIte, Int.reduceLT, Int.reduceLE, Int.reduceAdd, Int.reduceSub, Int.reduceMul, Int.reduceNeg, Int.reduceToNat, Int.reduceEq, not_true_eq_false, not_false_eq_true, Int.toNat_zero]
      simp only [idx, idxF]
      repeat' split
      all_goals simp_all
  · exact h.elim
theorem idx_in (h : RowIs σ c r L) : -1 ≤ idx L n ∧ idx L n ≤ 2 := by
  rcases L with _ | ⟨⟨p1, p2⟩, _ | ⟨⟨q1, q2⟩, _ | ⟨⟨w1, w2⟩, _ | ⟨x, t⟩⟩⟩⟩
  · exact ⟨by show (-1 : Int) ≤ -1; decide, by show (-1 : Int) ≤ 2; decide⟩
  · simp only [idx, idxF]
    split <;> decide
  · simp only [idx, idxF]
    repeat' split
    all_goals decide
  · simp only [idx, idxF]
    repeat' split
    all_goals decide
  · exact h.elim
theorem sgn_none (h : idx L n = -1) (hr : RowIs σ c r L) : sgn L n = 0 := by
  rcases L with _ | ⟨⟨p1, p2⟩, _ | ⟨⟨q1, q2⟩, _ | ⟨⟨w1, w2⟩, _ | ⟨x, t⟩⟩⟩⟩
  · rfl
  · simp only [idx, idxF] at h
    simp only [sgn]
    split at h <;> simp_all
  · simp only [idx, idxF] at h
    simp only [sgn]
    repeat' split at h
    all_goals simp_all
  · simp only [idx, idxF] at h
    simp only [sgn]
    repeat' split at h
    all_goals simp_all
  · exact hr.elim
theorem sgn_at (h : ¬ idx L n = -1) (hr : RowIs σ c 1 L) : 0 ≤ idx L n ∧ idx L n ≤ 2 ∧ σ c 3 (idx L n).toNat = sgn L n := by
  rcases L with _ | ⟨⟨p1, p2⟩, _ | ⟨⟨q1, q2⟩, _ | ⟨⟨w1, w2⟩, _ | ⟨x, t⟩⟩⟩⟩
  · exact absurd rfl h
  · obtain ⟨h0, h1, h2⟩ := hr
    simp only [idx, idxF] at h ⊢
    simp only [sgn]
    split at h <;> simp_all
  · obtain ⟨h0, h1, h2, h3, h4⟩ := hr
    simp only [idx, idxF] at h ⊢
    simp only [sgn]
    repeat' split at h
    all_goals simp_all
  · obtain ⟨h0, h1, h2, h3, h4, h5, h6⟩ := hr
    simp only [idx, idxF] at h ⊢
    simp only [sgn]
    repeat' split at h
    all_goals simp_all
  · exact hr.elim
theorem r_has (hc : c < 8) (hr : r = 1 ∨ r = 4) (h : RowIs σ c r L) (ho : FgOk L) (hn : -2147483648 ≤ n ∧ n ≤ 2147483647) : Rn (d + 1) 24 [vr c r, vi n] σ (.inl (some (vi (if idx L n = -1 then 0 else 1)))) σ := by
  have h1 := idx_in (n := n) h
  refine Rn.of ?_
  rw [e24]
  rcases hr with rfl | rfl
  · simp (disch := omega) only [u24_0, u24_1, u24_2, u24_5, u24_6, u24_9, u24_10, u24_13, u24_14, o_c0, fv_c0_0, fv_c0_1, fv_c0_2, fv_c0_3, fv_c0_4, fv_c0_5, fv_c0_6, fv_c0_7, rf_c0_7, fv_c0_8, rf_c0_8, fv_c0_9, rf_c0_9, fv_c0_10, rf_c0_10, fv_c0_11, rf_c0_11, fv_c0_12, rf_c0_12, fv_c0_13, rf_c0_13, fv_c0_14, rf_c0_14, fv_c0_15, rf_c0_15, fv_c0_16, rf_c0_16, fv_c0_17, rf_c0_17, o_c1, fv_c1_0, fv_c1_1, fv_c1_2, rf_c1_2, o_c4, fv_c4_0, fv_c4_1, fv_c4_2, rf_c4_2, ia_c2, is_c2, ia_c3, is_c3, ia_c5, is_c5, ia_c6, is_c6, ia_c7, is_c7, ia_c8, is_c8, ia_c9, is_c9, ia_c10, is_c10, ia_c11, is_c11, Li_s, Lr_s, Ll_s, On_s, lget, lset, clr_i, clr_r, clr_n, Kc_i, Kc_v, Kc_x, true_and, and_true, List.length_cons, List.length_nil, nlg, isLn, List.all_cons, List.all_nil, Bool.and_true, Bool.not_false, Nat.zero_le, Nat.reduceAdd, Nat.reduceLeDiff, ↓reduceIte, Int.reduceLT, Int.reduceLE, Int.reduceAdd, Int.reduceSub, Int.reduceMul, Int.reduceNeg, Int.reduceToNat, Int.reduceEq, not_true_eq_false, not_false_eq_true, Int.toNat_zero]
    rw [(r_indexOf hc (Or.inl rfl) h ho hn).iff]
    simp (disch := omega) only [u24_0, u24_1, u24_2, u24_5, u24_6, u24_9, u24_10, u24_13, u24_14, o_c0, fv_c0_0, fv_c0_1, fv_c0_2, fv_c0_3, fv_c0_4, fv_c0_5, fv_c0_6, fv_c0_7, rf_c0_7, fv_c0_8, rf_c0_8, fv_c0_9, rf_c0_9, fv_c0_10, rf_c0_10, fv_c0_11, rf_c0_11, fv_c0_12, rf_c0_12, fv_c0_13, rf_c0_13, fv_c0_14, rf_c0_14, fv_c0_15, rf_c0_15, fv_c0_16, rf_c0_16, fv_c0_17, rf_c0_17, o_c1, fv_c1_0, fv_c1_1, fv_c1_2, rf_c1_2, o_c4, fv_c4_0, fv_c4_1, fv_c4_2, rf_c4_2, ia_c2, is_c2, ia_c3, is_c3, ia_c5, is_c5, ia_c6, is_c6, ia_c7, is_c7, ia_c8, is_c8, ia_c9, is_c9, ia_c10, is_c10, ia_c11, is_c11, Li_s, Lr_s, Ll_s, On_s, lget, lset, clr_i, clr_r, clr_n, Kc_i, Kc_v, Kc_x, true_and, and_true, List.length_cons, List.length_nil, nlg, isLn, List.all_cons, List.all_nil, Bool.and_true, Bool.not_false, Nat.zero_le, Nat.reduceAdd, Nat.reduceLeDiff, ↓reduceIte, Int.reduceLT, Int.reduceLE, Int.reduceAdd, Int.reduceSub, Int.reduceMul, Int.reduceNeg, Int.reduceToNat, Int.reduceEq, not_true_eq_false, not_false_eq_true, Int.toNat_zero]
    split <;> rfl
  · simp (disch := omega) only [u24_0, u24_1, u24_2, u24_5, u24_6, u24_9, u24_10, u24_13, u24_14, o_c0, fv_c0_0, fv_c0_1, fv_c0_2, fv_c0_3, fv_c0_4, fv_c0_5, fv_c0_6, fv_c0_7, rf_c0_7, fv_c0_8, rf_c0_8, fv_c0_9, rf_c0_9, fv_c0_10, rf_c0_10, fv_c0_11, rf_c0_11, fv_c0_12, rf_c0_12, fv_c0_13, rf_c0_13, fv_c0_14, rf_c0_14, fv_c0_15, rf_c0_15, fv_c0_16, rf_c0_16, fv_c0_17, rf_c0_17, o_c1, fv_c1_0, fv_c1_1, fv_c1_2, rf_c1_2, o_c4, fv_c4_0, fv_c4_1, fv_c4_2, rf_c4_2, ia_c2, is_c2, ia_c3, is_c3, ia_c5, is_c5, ia_c6, is_c6, ia_c7, is_c7, ia_c8, is_c8, ia_c9, is_c9, ia_c10, is_c10, ia_c11, is_c11, Li_s, Lr_s, Ll_s, On_s, lget, lset, clr_i, clr_r, clr_n, Kc_i, Kc_v, Kc_x, true_and, and_true, List.length_cons, List.length_nil, nlg, isLn, List.all_cons, List.all_nil, Bool.and_true, Bool.not_false, Nat.zero_le, Nat.reduceAdd, Nat.reduceLeDiff, ↓reduceIte, Int.reduceLT, Int.reduceLE, Int.reduceAdd, Int.reduceSub, Int.reduceMul, Int.reduceNeg, Int.reduceToNat, Int.reduceEq, not_true_eq_false, not_false_eq_true, Int.toNat_zero]
    rw [(r_indexOf hc (Or.inr rfl) h ho hn).iff]
    simp (disch := omega) only [u24_0, u24_1, u24_2, u24_5, u24_6, u24_9, u24_10, u24_13, u24_14, o_c0, fv_c0_0, fv_c0_1, fv_c0_2, fv_c0_3, fv_c0_4, fv_c0_5, fv_c0_6, fv_c0_7, rf_c0_7, fv_c0_8, rf_c0_8, fv_c0_9, rf_c0_9, fv_c0_10, rf_c0_10, fv_c0_11, rf_c0_11, fv_c0_12, rf_c0_12, fv_c0_13, rf_c0_13, fv_c0_14, rf_c0_14, fv_c0_15, rf_c0_15, fv_c0_16, rf_c0_16, fv_c0_17, rf_c0_17, o_c1, fv_c1_0, fv_c1_1, fv_c1_2, rf_c1_2, o_c4, fv_c4_0, fv_c4_1, fv_c4_2, rf_c4_2, ia_c2, is_c2, ia_c3, is_c3, ia_c5, is_c5, ia_c6, is_c6, ia_c7, is_c7, ia_c8, is_c8, ia_c9, is_c9, ia_c10, is_c10, ia_c11, is_c11, Li_s, Lr_s, Ll_s, On_s, lget, lset, clr_i, clr_r, clr_n, Kc_i, Kc_v, Kc_x, true_and, and_true, List.length_cons, List.length_nil, nlg, isLn, List.all_cons, List.all_nil, Bool.and_true, Bool.not_false, Nat.zero_le, Nat.reduceAdd, Nat.reduceLeDiff, ↓reduceIte, Int.reduceLT, Int.reduceLE, Int.reduceAdd, Int.reduceSub, Int.reduceMul, Int.reduceNeg, Int.reduceToNat, Int.reduceEq, not_true_eq_false, not_false_eq_true, Int.toNat_zero]
    split <;> rfl
/-- takes(n): of the row as it is written -/
theorem r_takes (hc : c < 8) (h : RowIs σ c 1 L) (ho : FgOk L) (hn : -2147483648 ≤ n ∧ n ≤ 2147483647) : Rn (d + 1) 21 [vr c 1, vi n] σ (.inl (some (vi (if L.length = 3 then 0 else if idx L n = -1 then 1 else 0)))) σ := by
  have h1 := idx_in (n := n) h
  have hl : σ c 1 2 = (L.length : Int) ∧ L.length ≤ 3 := by
    rcases L with _ | ⟨⟨p1, p2⟩, _ | ⟨⟨q1, q2⟩, _ | ⟨⟨w1, w2⟩, _ | ⟨x, t⟩⟩⟩⟩
    · exact ⟨h, by decide⟩
    · exact ⟨h.1, by simp⟩
    · exact ⟨h.1, by simp⟩
    · exact ⟨h.1, by simp⟩
    · exact h.elim
  refine Rn.of ?_
  rw [e21]
  simp (disch := omega) only [u21_0, u21_1, u21_4, u21_5, u21_8, u21_9, u21_10, u21_13, u21_14, u21_17, u21_18, u21_21, u21_22, o_c0, fv_c0_0, fv_c0_1, fv_c0_2, fv_c0_3, fv_c0_4, fv_c0_5, fv_c0_6, fv_c0_7, rf_c0_7, fv_c0_8, rf_c0_8, fv_c0_9, rf_c0_9, fv_c0_10, rf_c0_10, fv_c0_11, rf_c0_11, fv_c0_12, rf_c0_12, fv_c0_13, rf_c0_13, fv_c0_14, rf_c0_14, fv_c0_15, rf_c0_15, fv_c0_16, rf_c0_16, fv_c0_17, rf_c0_17, o_c1, fv_c1_0, fv_c1_1, fv_c1_2, rf_c1_2, o_c4, fv_c4_0, fv_c4_1, fv_c4_2, rf_c4_2, ia_c2, is_c2, ia_c3, is_c3, ia_c5, is_c5, ia_c6, is_c6, ia_c7, is_c7, ia_c8, is_c8, ia_c9, is_c9, ia_c10, is_c10, ia_c11, is_c11, Li_s, Lr_s, Ll_s, On_s, lget, lset, clr_i, clr_r, clr_n, Kc_i, Kc_v, Kc_x, true_and, and_true, List.length_cons, List.length_nil, nlg, isLn, List.all_cons, List.all_nil, Bool.and_true, Bool.not_false, Nat.zero_le, Nat.reduceAdd, Nat.reduceLeDiff, ↓reduceIte, Int.reduceLT, Int.reduceLE, Int.reduceAdd, Int.reduceSub, Int.reduceMul, Int.reduceNeg, Int.reduceToNat, Int.reduceEq, not_true_eq_false, not_false_eq_true, Int.toNat_zero]
  rw [(r_indexOf hc (Or.inl rfl) h ho hn).iff]
  simp (disch := omega) only [u21_0, u21_1, u21_4, u21_5, u21_8, u21_9, u21_10, u21_13, u21_14, u21_17, u21_18, u21_21, u21_22, o_c0, fv_c0_0, fv_c0_1, fv_c0_2, fv_c0_3, fv_c0_4, fv_c0_5, fv_c0_6, fv_c0_7, rf_c0_7, fv_c0_8, rf_c0_8, fv_c0_9, rf_c0_9, fv_c0_10, rf_c0_10, fv_c0_11, rf_c0_11, fv_c0_12, rf_c0_12, fv_c0_13, rf_c0_13, fv_c0_14, rf_c0_14, fv_c0_15, rf_c0_15, fv_c0_16, rf_c0_16, fv_c0_17, rf_c0_17, o_c1, fv_c1_0, fv_c1_1, fv_c1_2, rf_c1_2, o_c4, fv_c4_0, fv_c4_1, fv_c4_2, rf_c4_2, ia_c2, is_c2, ia_c3, is_c3, ia_c5, is_c5, ia_c6, is_c6, ia_c7, is_c7, ia_c8, is_c8, ia_c9, is_c9, ia_c10, is_c10, ia_c11, is_c11, Li_s, Lr_s, Ll_s, On_s, lget, lset, clr_i, clr_r, clr_n, Kc_i, Kc_v, Kc_x, true_and, and_true, List.length_cons, List.length_nil, nlg, isLn, List.all_cons, List.all_nil, Bool.and_true, Bool.not_false, Nat.zero_le, Nat.reduceAdd, Nat.reduceLeDiff, ↓reduceIte, Int.reduceLT, Int.reduceLE, Int.reduceAdd, Int.reduceSub, Int.reduceMul, Int.reduceNeg, Int.reduceToNat, Int.reduceEq, not_true_eq_false, not_false_eq_true, Int.toNat_zero]
  by_cases h3 : L.length = 3
  · rw [if_pos (by omega), if_pos h3]
  · rw [if_neg (by omega), if_neg h3]
    by_cases h4 : idx L n = -1
    · rw [if_neg (by omega), if_pos h4]
    · rw [if_pos h4, if_neg h4]
theorem r_digits (hc : c < 8) (hr : r = 1 ∨ r = 4) (h : RowIs σ c r L) (ho : FgOk L) : Rn d 27 [vr c r] σ (.inl (some (vi (dig L)))) σ := by
  refine Rn.of ?_
  rw [e27]
  rcases L with _ | ⟨⟨p1, p2⟩, _ | ⟨⟨q1, q2⟩, _ | ⟨⟨w1, w2⟩, _ | ⟨x, t⟩⟩⟩⟩
  · have h0 : σ c r 2 = 0 := h
    rcases hr with rfl | rfl
    · simp (disch := omega) only [u27_0, u27_1, u27_2, u27_3, u27_4, u27_5, u27_6, u27_9, u27_12, u27_13, u27_15, u27_16, u27_17, u27_20, u27_21, u27_22, u27_23, u27_24, u27_27, u27_30, u27_31, o_c0, fv_c0_0, fv_c0_1, fv_c0_2, fv_c0_3, fv_c0_4, fv_c0_5, fv_c0_6, fv_c0_7, rf_c0_7, fv_c0_8, rf_c0_8, fv_c0_9, rf_c0_9, fv_c0_10, rf_c0_10, fv_c0_11, rf_c0_11, fv_c0_12, rf_c0_12, fv_c0_13, rf_c0_13, fv_c0_14, rf_c0_14, fv_c0_15, rf_c0_15, fv_c0_16, rf_c0_16, fv_c0_17, rf_c0_17, o_c1, fv_c1_0, fv_c1_1, fv_c1_2, rf_c1_2, o_c4, fv_c4_0, fv_c4_1, fv_c4_2, rf_c4_2, ia_c2, is_c2, ia_c3, is_c3, ia_c5, is_c5, ia_c6, is_c6, ia_c7, is_c7, ia_c8, is_c8, ia_c9, is_c9, ia_c10, is_c10, ia_c11, is_c11, h0, Li_s, Lr_s, Ll_s, On_s, lget, lset, clr_i, clr_r, clr_n, Kc_i, Kc_v, Kc_x, true_and, and_true, List.length_cons, List.length_nil, nlg, isLn, List.all_cons, List.all_nil, Bool.and_true, Bool.not_false, Nat.zero_le, Nat.reduceAdd, Nat.reduceLeDiff, ↓reduceIte, Int.reduceLT, Int.reduceLE, Int.reduceAdd, Int.reduceSub, Int.reduceMul, Int.reduceNeg, Int.reduceToNat, Int.reduceEq, not_true_eq_false, not_false_eq_true, Int.toNat_zero]
      rfl
    · simp (disch := omega) only [u27_0, u27_1, u27_2, u27_3, u27_4, u27_5, u27_6, u27_9, u27_12, u27_13, u27_15, u27_16, u27_17, u27_20, u27_21, u27_22, u27_23, u27_24, u27_27, u27_30, u27_31, o_c0, fv_c0_0, fv_c0_1, fv_c0_2, fv_c0_3, fv_c0_4, fv_c0_5, fv_c0_6, fv_c0_7, rf_c0_7, fv_c0_8, rf_c0_8, fv_c0_9, rf_c0_9, fv_c0_10, rf_c0_10, fv_c0_11, rf_c0_11, fv_c0_12, rf_c0_12, fv_c0_13, rf_c0_13, fv_c0_14, rf_c0_14, fv_c0_15, rf_c0_15, fv_c0_16, rf_c0_16, fv_c0_17, rf_c0_17, o_c1, fv_c1_0, fv_c1_1, fv_c1_2, rf_c1_2, o_c4, fv_c4_0, fv_c4_1, fv_c4_2, rf_c4_2, ia_c2, is_c2, ia_c3, is_c3, ia_c5, is_c5, ia_c6, is_c6, ia_c7, is_c7, ia_c8, is_c8, ia_c9, is_c9, ia_c10, is_c10, ia_c11, is_c11, h0, Li_s, Lr_s, Ll_s, On_s, lget, lset, clr_i, clr_r, clr_n, Kc_i, Kc_v, Kc_x, true_and, and_true, List.length_cons, List.length_nil, nlg, isLn, List.all_cons, List.all_nil, Bool.and_true, Bool.not_false, Nat.zero_le, Nat.reduceAdd, Nat.reduceLeDiff, ↓reduceIte, Int.reduceLT, Int.reduceLE, Int.reduceAdd, Int.reduceSub, Int.reduceMul, Int.reduceNeg, Int.reduceToNat, Int.reduceEq, not_true_eq_false, not_false_eq_true, Int.toNat_zero]
      rfl
  · obtain ⟨h0, h1, -⟩ := h
    rcases hr with rfl | rfl
    · simp (disch := omega) only [u27_0, u27_1, u27_2, u27_3, u27_4, u27_5, u27_6, u27_9, u27_12, u27_13, u27_15, u27_16, u27_17, u27_20, u27_21, u27_22, u27_23, u27_24, u27_27, u27_30, u27_31, o_c0, fv_c0_0, fv_c0_1, fv_c0_2, fv_c0_3, fv_c0_4, fv_c0_5, fv_c0_6, fv_c0_7, rf_c0_7, fv_c0_8, rf_c0_8, fv_c0_9, rf_c0_9, fv_c0_10, rf_c0_10, fv_c0_11, rf_c0_11, fv_c0_12, rf_c0_12, fv_c0_13, rf_c0_13, fv_c0_14, rf_c0_14, fv_c0_15, rf_c0_15, fv_c0_16, rf_c0_16, fv_c0_17, rf_c0_17, o_c1, fv_c1_0, fv_c1_1, fv_c1_2, rf_c1_2, o_c4, fv_c4_0, fv_c4_1, fv_c4_2, rf_c4_2, ia_c2, is_c2, ia_c3, is_c3, ia_c5, is_c5, ia_c6, is_c6, ia_c7, is_c7, ia_c8, is_c8, ia_c9, is_c9, ia_c10, is_c10, ia_c11, is_c11, h0, h1, Li_s, Lr_s, Ll_s, On_s, lget, lset, clr_i, clr_r, clr_n, Kc_i, Kc_v, Kc_x, true_and, and_true, List.length_cons, List.length_nil, nlg, isLn, List.all_cons, List.all_nil, Bool.and_true, Bool.not_false, Nat.zero_le, Nat.reduceAdd, Nat.reduceLeDiff, ↓reduceIte, Int.reduceLT, Int.reduceLE, Int.reduceAdd, Int.reduceSub, Int.reduceMul, Int.reduceNeg, Int.reduceToNat, Int.reduceEq, not_true_eq_false, not_false_eq_true, Int.toNat_zero]
      rfl
    · simp (disch := omega) only [u27_0, u27_1, u27_2, u27_3, u27_4, u27_5, u27_6, u27_9, u27_12, u27_13, u27_15, u27_16, u27_17, u27_20, u27_21, u27_22, u27_23, u27_24, u27_27, u27_30, u27_31, o_c0, fv_c0_0, fv_c0_1, fv_c0_2, fv_c0_3, fv_c0_4, fv_c0_5, fv_c0_6, fv_c0_7, rf_c0_7, fv_c0_8, rf_c0_8, fv_c0_9, rf_c0_9, fv_c0_10, rf_c0_10, fv_c0_11, rf_c0_11, fv_c0_12, rf_c0_12, fv_c0_13, rf_c0_13, fv_c0_14, rf_c0_14, fv_c0_15, rf_c0_15, fv_c0_16, rf_c0_16, fv_c0_17, rf_c0_17, o_c1, fv_c1_0, fv_c1_1, fv_c1_2, rf_c1_2, o_c4, fv_c4_0, fv_c4_1, fv_c4_2, rf_c4_2, ia_c2, is_c2, ia_c3, is_c3, ia_c5, is_c5, ia_c6, is_c6, ia_c7, is_c7, ia_c8, is_c8, ia_c9, is_c9, ia_c10, is_c10, ia_c11, is_c11, h0, h1, Li_s, Lr_s, Ll_s, On_s, lget, lset, clr_i, clr_r, clr_n, Kc_i, Kc_v, Kc_x, true_and, and_true, List.length_cons, List.length_nil, nlg, isLn, List.all_cons, List.all_nil, Bool.and_true, Bool.not_false, Nat.zero_le, Nat.reduceAdd, Nat.reduceLeDiff, ↓reduceIte, Int.reduceLT, Int.reduceLE, Int.reduceAdd, Int.reduceSub, Int.reduceMul, Int.reduceNeg, Int.reduceToNat, Int.reduceEq, not_true_eq_false, not_false_eq_true, Int.toNat_zero]
      rfl
  · obtain ⟨h0, h1, -, h2, -⟩ := h
    rcases hr with rfl | rfl
    · simp (disch := omega) only [u27_0, u27_1, u27_2, u27_3, u27_4, u27_5, u27_6, u27_9, u27_12, u27_13, u27_15, u27_16, u27_17, u27_20, u27_21, u27_22, u27_23, u27_24, u27_27, u27_30, u27_31, o_c0, fv_c0_0, fv_c0_1, fv_c0_2, fv_c0_3, fv_c0_4, fv_c0_5, fv_c0_6, fv_c0_7, rf_c0_7, fv_c0_8, rf_c0_8, fv_c0_9, rf_c0_9, fv_c0_10, rf_c0_10, fv_c0_11, rf_c0_11, fv_c0_12, rf_c0_12, fv_c0_13, rf_c0_13, fv_c0_14, rf_c0_14, fv_c0_15, rf_c0_15, fv_c0_16, rf_c0_16, fv_c0_17, rf_c0_17, o_c1, fv_c1_0, fv_c1_1, fv_c1_2, rf_c1_2, o_c4, fv_c4_0, fv_c4_1, fv_c4_2, rf_c4_2, ia_c2, is_c2, ia_c3, is_c3, ia_c5, is_c5, ia_c6, is_c6, ia_c7, is_c7, ia_c8, is_c8, ia_c9, is_c9, ia_c10, is_c10, ia_c11, is_c11, h0, h1, h2, Li_s, Lr_s, Ll_s, On_s, lget, lset, clr_i, clr_r, clr_n, Kc_i, Kc_v, Kc_x, true_and, and_true, List.length_cons, List.length_nil, nlg, isLn, List.all_cons, List.all_nil, Bool.and_true, Bool.not_false, Nat.zero_le, Nat.reduceAdd, Nat.reduceLeDiff, ↓reduceIte, Int.reduceLT, Int.reduceLE, Int.reduceAdd, Int.reduceSub, Int.reduceMul, Int.reduceNeg, Int.reduceToNat, Int.reduceEq, not_true_eq_false, not_false_eq_true, Int.toNat_zero]
      rfl
    · simp (disch := omega) only [u27_0, u27_1, u27_2, u27_3, u27_4, u27_5, u27_6, u27_9, u27_12, u27_13, u27_15, u27_16, u27_17, u27_20, u27_21, u27_22, u27_23, u27_24, u27_27, u27_30, u27_31, o_c0, fv_c0_0, fv_c0_1, fv_c0_2, fv_c0_3, fv_c0_4, fv_c0_5, fv_c0_6, fv_c0_7, rf_c0_7, fv_c0_8, rf_c0_8, fv_c0_9, rf_c0_9, fv_c0_10, rf_c0_10, fv_c0_11, rf_c0_11, fv_c0_12, rf_c0_12, fv_c0_13, rf_c0_13, fv_c0_14, rf_c0_14, fv_c0_15, rf_c0_15, fv_c0_16, rf_c0_16, fv_c0_17, rf_c0_17, o_c1, fv_c1_0, fv_c1_1, fv_c1_2, rf_c1_2, o_c4, fv_c4_0, fv_c4_1, fv_c4_2, rf_c4_2, ia_c2, is_c2, ia_c3, is_c3, ia_c5, is_c5, ia_c6, is_c6, ia_c7, is_c7, ia_c8, is_c8, ia_c9, is_c9, ia_c10, is_c10, ia_c11, is_c11, h0, h1, h2, Li_s, Lr_s, Ll_s, On_s, lget, lset, clr_i, clr_r, clr_n, Kc_i, Kc_v, Kc_x, true_and, and_true, List.length_cons, List.length_nil, nlg, isLn, List.all_cons, List.all_nil, Bool.and_true, Bool.not_false, Nat.zero_le, Nat.reduceAdd, Nat.reduceLeDiff, ↓reduceIte, Int.reduceLT, Int.reduceLE, Int.reduceAdd, Int.reduceSub, Int.reduceMul, Int.reduceNeg, Int.reduceToNat, Int.reduceEq, not_true_eq_false, not_false_eq_true, Int.toNat_zero]
      rfl
  · obtain ⟨h0, h1, -, h2, -, h3, -⟩ := h
    rcases hr with rfl | rfl
    · simp (disch := omega) only [u27_0, u27_1, u27_2, u27_3, u27_4, u27_5, u27_6, u27_9, u27_12, u27_13, u27_15, u27_16, u27_17, u27_20, u27_21, u27_22, u27_23, u27_24, u27_27, u27_30, u27_31, o_c0, fv_c0_0, fv_c0_1, fv_c0_2, fv_c0_3, fv_c0_4, fv_c0_5, fv_c0_6, fv_c0_7, rf_c0_7, fv_c0_8, rf_c0_8, fv_c0_9, rf_c0_9, fv_c0_10, rf_c0_10, fv_c0_11, rf_c0_11, fv_c0_12, rf_c0_12, fv_c0_13, rf_c0_13, fv_c0_14, rf_c0_14, fv_c0_15, rf_c0_15, fv_c0_16, rf_c0_16, fv_c0_17, rf_c0_17, o_c1, fv_c1_0, fv_c1_1, fv_c1_2, rf_c1_2, o_c4, fv_c4_0, fv_c4_1, fv_c4_2, rf_c4_2, ia_c2, is_c2, ia_c3, is_c3, ia_c5, is_c5, ia_c6, is_c6, ia_c7, is_c7, ia_c8, is_c8, ia_c9, is_c9, ia_c10, is_c10, ia_c11, is_c11, h0, h1, h2, h3, Li_s, Lr_s, Ll_s, On_s, lget, lset, clr_i, clr_r, clr_n, Kc_i, Kc_v, Kc_x, true_and, and_true, List.length_cons, List.length_nil, nlg, isLn, List.all_cons, List.all_nil, Bool.and_true, Bool.not_false, Nat.zero_le, Nat.reduceAdd, Nat.reduceLeDiff, ↓reduceIte, Int.reduceLT, Int.reduceLE, Int.reduceAdd, Int.reduceSub, Int.reduceMul, Int.reduceNeg, Int.reduceToNat, Int.reduceEq, not_true_eq_false, not_false_eq_true, Int.toNat_zero]
      rfl
    · simp (disch := omega) only [u27_0, u27_1, u27_2, u27_3, u27_4, u27_5, u27_6, u27_9, u27_12, u27_13, u27_15, u27_16, u27_17, u27_20, u27_21, u27_22, u27_23, u27_24, u27_27, u27_30, u27_31, o_c0, fv_c0_0, fv_c0_1, fv_c0_2, fv_c0_3, fv_c0_4, fv_c0_5, fv_c0_6, fv_c0_7, rf_c0_7, fv_c0_8, rf_c0_8, fv_c0_9, rf_c0_9, fv_c0_10, rf_c0_10, fv_c0_11, rf_c0_11, fv_c0_12, rf_c0_12, fv_c0_13, rf_c0_13, fv_c0_14, rf_c0_14, fv_c0_15, rf_c0_15, fv_c0_16, rf_c0_16, fv_c0_17, rf_c0_17, o_c1, fv_c1_0, fv_c1_1, fv_c1_2, rf_c1_2, o_c4, fv_c4_0, fv_c4_1, fv_c4_2, rf_c4_2, ia_c2, is_c2, ia_c3, is_c3, ia_c5, is_c5, ia_c6, is_c6, ia_c7, is_c7, ia_c8, is_c8, ia_c9, is_c9, ia_c10, is_c10, ia_c11, is_c11, h0, h1, h2, h3, Li_s, Lr_s, Ll_s, On_s, lget, lset, clr_i, clr_r, clr_n, Kc_i, Kc_v, Kc_x, true_and, and_true, List.length_cons, List.length_nil, nlg, isLn, List.all_cons, List.all_nil, Bool.and_true, Bool.not_false, Nat.zero_le, Nat.reduceAdd, Nat.reduceLeDiff, ↓reduceIte, Int.reduceLT, Int.reduceLE, Int.reduceAdd, Int.reduceSub, Int.reduceMul, Int.reduceNeg, Int.reduceToNat, Int.reduceEq, not_true_eq_false, not_false_eq_true, Int.toNat_zero]
      rfl
  · exact h.elim
theorem dig_in (hr : RowIs σ c r L) (ho : FgOk L) : 0 ≤ dig L ∧ dig L ≤ 999 := by
  rcases L with _ | ⟨⟨p1, p2⟩, _ | ⟨⟨q1, q2⟩, _ | ⟨⟨w1, w2⟩, _ | ⟨x, t⟩⟩⟩⟩
  · decide
  · have o1 := ho (p1, p2) (by simp)
    simp only [dig, List.foldl] at o1 ⊢
    omega
  · have o1 := ho (p1, p2) (by simp)
    have o2 := ho (q1, q2) (by simp)
    simp only [dig, List.foldl] at o1 o2 ⊢
    omega
  · have o1 := ho (p1, p2) (by simp)
    have o2 := ho (q1, q2) (by simp)
    have o3 := ho (w1, w2) (by simp)
    simp only [dig, List.foldl] at o1 o2 o3 ⊢
    omega
  · exact hr.elim
theorem sv5_0 : sV 5 0 = 0 := rfl
theorem sv5_1 : sV 5 1 = 3 := rfl
theorem sv5_2 : sV 5 2 = 6 := rfl
theorem sv5_3 : sV 5 3 = 7 := rfl
theorem sv5_4 : sV 5 4 = 65 := rfl
theorem sv5_5 : sV 5 5 = 43 := rfl
theorem sv5_6 : sV 5 6 = 2 := rfl
theorem sv5_7 : sV 5 7 = 42 := rfl
theorem sv5_8 : sV 5 8 = 4 := rfl
theorem r_longDigits (hc : c < 8) (hr : r = 1 ∨ r = 4) (h : RowIs σ c r L) (ho : FgOk L) : Rn (d + 1) 28 [vr c r] σ (.inl (some (vi (lng (dig L))))) σ := by
  have h1 := dig_in h ho
  have h2 := (r_digits (d := d) hc hr h ho)
  refine Rn.of ?_
  rw [e28]
  rcases hr with rfl | rfl
  · simp (disch := omega) only [u28_0, u28_1, u28_4, u28_5, u28_6, u28_8, u28_11, u28_12, u28_15, u28_18, u28_19, u28_20, u28_21, u28_24, u28_27, u28_28, u28_29, u28_30, u28_33, u28_36, u28_37, o_c0, fv_c0_0, fv_c0_1, fv_c0_2, fv_c0_3, fv_c0_4, fv_c0_5, fv_c0_6, fv_c0_7, rf_c0_7, fv_c0_8, rf_c0_8, fv_c0_9, rf_c0_9, fv_c0_10, rf_c0_10, fv_c0_11, rf_c0_11, fv_c0_12, rf_c0_12, fv_c0_13, rf_c0_13, fv_c0_14, rf_c0_14, fv_c0_15, rf_c0_15, fv_c0_16, rf_c0_16, fv_c0_17, rf_c0_17, o_c1, fv_c1_0, fv_c1_1, fv_c1_2, rf_c1_2, o_c4, fv_c4_0, fv_c4_1, fv_c4_2, rf_c4_2, ia_c2, is_c2, ia_c3, is_c3, ia_c5, is_c5, ia_c6, is_c6, ia_c7, is_c7, ia_c8, is_c8, ia_c9, is_c9, ia_c10, is_c10, ia_c11, is_c11, Li_s, Lr_s, Ll_s, On_s, lget, lset, clr_i, clr_r, clr_n, Kc_i, Kc_v, Kc_x, true_and, and_true, List.length_cons, List.length_nil, nlg, isLn, List.all_cons, List.all_nil, Bool.and_true, Bool.not_false, Nat.zero_le, Nat.reduceAdd, Nat.reduceLeDiff, ↓reduceIte, Int.reduceLT, Int.reduceLE, Int.reduceAdd, Int.reduceSub, Int.reduceMul, Int.reduceNeg, Int.reduceToNat, Int.reduceEq, not_true_eq_false, not_false_eq_true, Int.toNat_zero]
    rw [h2.iff]
    clear h2
    generalize dig L = D at h1 ⊢
    simp (disch := omega) only [u28_0, u28_1, u28_4, u28_5, u28_6, u28_7, u28_8, u28_11, u28_12, u28_15, u28_18, u28_19, u28_20, u28_21, u28_24, u28_27, u28_28, u28_29, u28_30, u28_33, u28_36, u28_37, o_c0, fv_c0_0, fv_c0_1, fv_c0_2, fv_c0_3, fv_c0_4, fv_c0_5, fv_c0_6, fv_c0_7, rf_c0_7, fv_c0_8, rf_c0_8, fv_c0_9, rf_c0_9, fv_c0_10, rf_c0_10, fv_c0_11, rf_c0_11, fv_c0_12, rf_c0_12, fv_c0_13, rf_c0_13, fv_c0_14, rf_c0_14, fv_c0_15, rf_c0_15, fv_c0_16, rf_c0_16, fv_c0_17, rf_c0_17, o_c1, fv_c1_0, fv_c1_1, fv_c1_2, rf_c1_2, o_c4, fv_c4_0, fv_c4_1, fv_c4_2, rf_c4_2, ia_c2, is_c2, ia_c3, is_c3, ia_c5, is_c5, ia_c6, is_c6, ia_c7, is_c7, ia_c8, is_c8, ia_c9, is_c9, ia_c10, is_c10, ia_c11, is_c11, it_0, al_0, it_1, al_1, it_2, al_2, it_3, al_3, it_4, al_4, it_5, al_5, it_6, al_6, sv5_0, sv5_1, sv5_2, sv5_3, sv5_4, sv5_5, sv5_6, sv5_7, sv5_8, Li_s, Lr_s, Ll_s, On_s, lget, lset, clr_i, clr_r, clr_n, Kc_i, Kc_v, Kc_x, true_and, and_true, List.length_cons, List.length_nil, nlg, isLn, List.all_cons, List.all_nil, Bool.and_true, Bool.not_false, Nat.zero_le, Nat.reduceAdd, Nat.reduceLeDiff, ↓reduceIte, Int.reduceLT, Int.reduceLE, Int.reduceAdd, Int.reduceSub, Int.reduceMul, Int.reduceNeg, Int.reduceToNat, Int.reduceEq, not_true_eq_false, not_false_eq_true, Int.toNat_zero]
    unfold lng
    by_cases c0 : 0 = D
    · subst c0
      simp [sV]
    by_cases c1 : 3 = D
    · subst c1
      simp [sV]
    by_cases c2 : 6 = D
    · subst c2
      simp [sV]
    by_cases c3 : 7 = D
    · subst c3
      simp [sV]
    by_cases c4 : 65 = D
    · subst c4
      simp [sV]
    by_cases c5 : 43 = D
    · subst c5
      simp [sV]
    by_cases c6 : 2 = D
    · subst c6
      simp [sV]
    by_cases c7 : 42 = D
    · subst c7
      simp [sV]
    by_cases c8 : 4 = D
    · subst c8
      simp [sV]
    simp [c0, c1, c2, c3, c4, c5, c6, c7, c8]
  · simp (disch := omega) only [u28_0, u28_1, u28_4, u28_5, u28_6, u28_8, u28_11, u28_12, u28_15, u28_18, u28_19, u28_20, u28_21, u28_24, u28_27, u28_28, u28_29, u28_30, u28_33, u28_36, u28_37, o_c0, fv_c0_0, fv_c0_1, fv_c0_2, fv_c0_3, fv_c0_4, fv_c0_5, fv_c0_6, fv_c0_7, rf_c0_7, fv_c0_8, rf_c0_8, fv_c0_9, rf_c0_9, fv_c0_10, rf_c0_10, fv_c0_11, rf_c0_11, fv_c0_12, rf_c0_12, fv_c0_13, rf_c0_13, fv_c0_14, rf_c0_14, fv_c0_15, rf_c0_15, fv_c0_16, rf_c0_16, fv_c0_17, rf_c0_17, o_c1, fv_c1_0, fv_c1_1, fv_c1_2, rf_c1_2, o_c4, fv_c4_0, fv_c4_1, fv_c4_2, rf_c4_2, ia_c2, is_c2, ia_c3, is_c3, ia_c5, is_c5, ia_c6, is_c6, ia_c7, is_c7, ia_c8, is_c8, ia_c9, is_c9, ia_c10, is_c10, ia_c11, is_c11, Li_s, Lr_s, Ll_s, On_s, lget, lset, clr_i, clr_r, clr_n, Kc_i, Kc_v, Kc_x, true_and, and_true, List.length_cons, List.length_nil, nlg, isLn, List.all_cons, List.all_nil, Bool.and_true, Bool.not_false, Nat.zero_le, Nat.reduceAdd, Nat.reduceLeDiff, ↓reduceIte, Int.reduceLT, Int.reduceLE, Int.reduceAdd, Int.reduceSub, Int.reduceMul, Int.reduceNeg, Int.reduceToNat, Int.reduceEq, not_true_eq_false, not_false_eq_true, Int.toNat_zero]
    rw [h2.iff]
    clear h2
    generalize dig L = D at h1 ⊢
    simp (disch := omega) only [u28_0, u28_1, u28_4, u28_5, u28_6, u28_7, u28_8, u28_11, u28_12, u28_15, u28_18, u28_19, u28_20, u28_21, u28_24, u28_27, u28_28, u28_29, u28_30, u28_33, u28_36, u28_37, o_c0, fv_c0_0, fv_c0_1, fv_c0_2, fv_c0_3, fv_c0_4, fv_c0_5, fv_c0_6, fv_c0_7, rf_c0_7, fv_c0_8, rf_c0_8, fv_c0_9, rf_c0_9, fv_c0_10, rf_c0_10, fv_c0_11, rf_c0_11, fv_c0_12, rf_c0_12, fv_c0_13, rf_c0_13, fv_c0_14, rf_c0_14, fv_c0_15, rf_c0_15, fv_c0_16, rf_c0_16, fv_c0_17, rf_c0_17, o_c1, fv_c1_0, fv_c1_1, fv_c1_2, rf_c1_2, o_c4, fv_c4_0, fv_c4_1, fv_c4_2, rf_c4_2, ia_c2, is_c2, ia_c3, is_c3, ia_c5, is_c5, ia_c6, is_c6, ia_c7, is_c7, ia_c8, is_c8, ia_c9, is_c9, ia_c10, is_c10, ia_c11, is_c11, it_0, al_0, it_1, al_1, it_2, al_2, it_3, al_3, it_4, al_4, it_5, al_5, it_6, al_6, sv5_0, sv5_1, sv5_2, sv5_3, sv5_4, sv5_5, sv5_6, sv5_7, sv5_8, Li_s, Lr_s, Ll_s, On_s, lget, lset, clr_i, clr_r, clr_n, Kc_i, Kc_v, Kc_x, true_and, and_true, List.length_cons, List.length_nil, nlg, isLn, List.all_cons, List.all_nil, Bool.and_true, Bool.not_false, Nat.zero_le, Nat.reduceAdd, Nat.reduceLeDiff, ↓reduceIte, Int.reduceLT, Int.reduceLE, Int.reduceAdd, Int.reduceSub, Int.reduceMul, Int.reduceNeg, Int.reduceToNat, Int.reduceEq, not_true_eq_false, not_false_eq_true, Int.toNat_zero]
    unfold lng
    by_cases c0 : 0 = D
    · subst c0
      simp [sV]
    by_cases c1 : 3 = D
    · subst c1
      simp [sV]
    by_cases c2 : 6 = D
    · subst c2
      simp [sV]
    by_cases c3 : 7 = D
    · subst c3
      simp [sV]
    by_cases c4 : 65 = D
    · subst c4
      simp [sV]
    by_cases c5 : 43 = D
    · subst c5
      simp [sV]
    by_cases c6 : 2 = D
    · subst c6
      simp [sV]
    by_cases c7 : 42 = D
    · subst c7
      simp [sV]
    by_cases c8 : 4 = D
    · subst c8
      simp [sV]
    simp [c0, c1, c2, c3, c4, c5, c6, c7, c8]
theorem r_optFifth (hc : c < 8) (h : RowIs σ c 1 L) (ho : FgOk L) : Rn (d + 1) 26 [vr c 1] σ (.inl (some (vi (if dig L = 0 ∨ dig L = 3 ∨ dig L = 7 then 1 else 0)))) σ := by
  have h1 := dig_in h ho
  refine Rn.of ?_
  rw [e26]
  simp (disch := omega) only [u26_0, u26_1, u26_4, u26_5, u26_6, u26_9, u26_10, u26_11, u26_14, u26_15, u26_17, u26_20, u26_21, u26_24, u26_25, o_c0, fv_c0_0, fv_c0_1, fv_c0_2, fv_c0_3, fv_c0_4, fv_c0_5, fv_c0_6, fv_c0_7, rf_c0_7, fv_c0_8, rf_c0_8, fv_c0_9, rf_c0_9, fv_c0_10, rf_c0_10, fv_c0_11, rf_c0_11, fv_c0_12, rf_c0_12, fv_c0_13, rf_c0_13, fv_c0_14, rf_c0_14, fv_c0_15, rf_c0_15, fv_c0_16, rf_c0_16, fv_c0_17, rf_c0_17, o_c1, fv_c1_0, fv_c1_1, fv_c1_2, rf_c1_2, o_c4, fv_c4_0, fv_c4_1, fv_c4_2, rf_c4_2, ia_c2, is_c2, ia_c3, is_c3, ia_c5, is_c5, ia_c6, is_c6, ia_c7, is_c7, ia_c8, is_c8, ia_c9, is_c9, ia_c10, is_c10, ia_c11, is_c11, Li_s, Lr_s, Ll_s, On_s, lget, lset, clr_i, clr_r, clr_n, Kc_i, Kc_v, Kc_x, true_and, and_true, List.length_cons, List.length_nil, nlg, isLn, List.all_cons, List.all_nil, Bool.and_true, Bool.not_false, Nat.zero_le, Nat.reduceAdd, Nat.reduceLeDiff, ↓reduceIte, Int.reduceLT, Int.reduceLE, Int.reduceAdd, Int.reduceSub, Int.reduceMul, Int.reduceNeg, Int.reduceToNat, Int.reduceEq, not_true_eq_false, not_false_eq_true, Int.toNat_zero]
  rw [(r_digits hc (Or.inl rfl) h ho).iff]
  simp (disch := omega) only [u26_0, u26_1, u26_4, u26_5, u26_6, u26_9, u26_10, u26_11, u26_14, u26_15, u26_17, u26_20, u26_21, u26_24, u26_25, o_c0, fv_c0_0, fv_c0_1, fv_c0_2, fv_c0_3, fv_c0_4, fv_c0_5, fv_c0_6, fv_c0_7, rf_c0_7, fv_c0_8, rf_c0_8, fv_c0_9, rf_c0_9, fv_c0_10, rf_c0_10, fv_c0_11, rf_c0_11, fv_c0_12, rf_c0_12, fv_c0_13, rf_c0_13, fv_c0_14, rf_c0_14, fv_c0_15, rf_c0_15, fv_c0_16, rf_c0_16, fv_c0_17, rf_c0_17, o_c1, fv_c1_0, fv_c1_1, fv_c1_2, rf_c1_2, o_c4, fv_c4_0, fv_c4_1, fv_c4_2, rf_c4_2, ia_c2, is_c2, ia_c3, is_c3, ia_c5, is_c5, ia_c6, is_c6, ia_c7, is_c7, ia_c8, is_c8, ia_c9, is_c9, ia_c10, is_c10, ia_c11, is_c11, Li_s, Lr_s, Ll_s, On_s, lget, lset, clr_i, clr_r, clr_n, Kc_i, Kc_v, Kc_x, true_and, and_true, List.length_cons, List.length_nil, nlg, isLn, List.all_cons, List.all_nil, Bool.and_true, Bool.not_false, Nat.zero_le, Nat.reduceAdd, Nat.reduceLeDiff, ↓reduceIte, Int.reduceLT, Int.reduceLE, Int.reduceAdd, Int.reduceSub, Int.reduceMul, Int.reduceNeg, Int.reduceToNat, Int.reduceEq, not_true_eq_false, not_false_eq_true, Int.toNat_zero]
  generalize dig L = D at h1
  repeat' split
  all_goals first | rfl | omega
end RW
