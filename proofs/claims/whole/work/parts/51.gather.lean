/-! PLACEMENTS are gathered: the class's side -/
theorem or_lt {a b : Nat} (ha : a < 4096) (hb : b < 4096) : a ||| b < 4096 := Nat.or_lt_two_pow (n := 12) ha hb
/-- the bits of the tones that are needed -/
def ndF (T : List (Int × Int)) (o : Int) : Nat → Int → Nat → Nat
  | 0, _, a => a
  | n + 1, i, a => ndF T o n (i + 1) (if i = o then a else a ||| btN (clsAt T i))
def ndN (T : List (Int × Int)) (o : Int) : Nat := ndF T o T.length 0 0
theorem ndF_lt (T : List (Int × Int)) (o : Int) : ∀ (n : Nat) (i : Int) (a : Nat), a < 4096 → ndF T o n i a < 4096
  | 0, _, _, h => h
  | n + 1, i, a, h => by
    refine ndF_lt T o n (i + 1) _ ?_
    split
    · exact h
    · exact or_lt h (btN_lt _)
theorem ndN_lt (T : List (Int × Int)) (o : Int) : ndN T o < 4096 := ndF_lt T o _ _ _ (by decide)
def hsT (T : List (Int × Int)) (s : Int) : Prop := ¬ lmp T (s % 12) = -1
def prN (s a t b : Int) : Nat := btN s ||| btN a ||| btN t ||| btN b
theorem prN_lt (s a t b : Int) : prN s a t b < 4096 := or_lt (or_lt (or_lt (btN_lt _) (btN_lt _)) (btN_lt _)) (btN_lt _)
abbrev Pl : Type := List (Int × Int × Int)
/-- the tenors from t on, the altos from a on, the sopranos from s on -/
def tnL (T : List (Int × Int)) (o b s a : Int) : Nat → Int → Pl
  | 0, _ => []
  | n + 1, t => (if ¬ lmp T (t % 12) = -1 ∧ prN s a t b &&& ndN T o = ndN T o then [(s, a, t)] else []) ++ tnL T o b s a n (t + 1)
def tnA (T : List (Int × Int)) (o b s a : Int) : Pl := tnL T o b s a (min 67 a - max (max 48 b) (a - 12) + 1).toNat (max (max 48 b) (a - 12))
def alL (T : List (Int × Int)) (o b s : Int) : Nat → Int → Pl
  | 0, _ => []
  | n + 1, a => (if ¬ lmp T (s % 12) = -1 ∧ ¬ lmp T (a % 12) = -1 then tnA T o b s a else []) ++ alL T o b s n (a + 1)
def alA (T : List (Int × Int)) (o b s : Int) : Pl := alL T o b s (min 74 s - max 55 (s - 12) + 1).toNat (max 55 (s - 12))
def soL (T : List (Int × Int)) (o b : Int) : Nat → Int → Pl
  | 0, _ => []
  | n + 1, s => alA T o b s ++ soL T o b n (s + 1)
/-- the placements of the tones T (o may be left out) over the bass sound b, in their order -/
def plc (T : List (Int × Int)) (o b : Int) : Pl := soL T o b 22 60
def PlIs (σ : Sg) (c : Nat) (P : Pl) : Prop := σ c 0 16 = (P.length : Int) ∧ ∀ i, i < P.length → σ c 10 (3 * i) = (P.getD i (0, 0, 0)).1 ∧ σ c 10 (3 * i + 1) = (P.getD i (0, 0, 0)).2.1 ∧ σ c 10 (3 * i + 2) = (P.getD i (0, 0, 0)).2.2
def frG (c : Nat) : Nat → Nat → Nat → Prop := fun g j k => g = c ∧ (j = 10 ∨ (j = 0 ∧ k = 16))
section GA
variable {d : Nat} {σ : Sg} {c : Nat} {T : List (Int × Int)} {P : Pl} {s a t b o : Int} {Q : Rs → Sg → Prop}
theorem l_need (hc : c < 8) (hT : ChT σ c T) (ho : TnOk T) (hl : T.length ≤ 4) (hop : σ c 0 11 = o) (hor : -1 ≤ o ∧ o ≤ 3) : ∀ (n : Nat) (i : Int) (x : Nat), 0 ≤ i → i + n = (T.length : Int) → x < 4096 → (Wx (d + 2) 41 4 [some (vr c 0), some (vi (x : Int)), some (vi i)] [] σ Q ↔ Q (.inl (some (vi ((ndF T o n i x : Nat) : Int)))) σ) := by
  have e0 := hT.1
  intro n
  induction n with
  | zero =>
    intro i x h0 h1 hx
    rw [u41_4]
    simp (disch := first | omega | simp) only [u41_0, u41_1, u41_2, u41_3, u41_5, u41_6, u41_9, u41_12, u41_13, u41_14, u41_17, u41_20, u41_21, u41_22, u41_25, u41_26, u41_27, u41_30, u41_31, u41_32, u41_35, u41_38, u41_39, o_c0, fv_c0_0, fv_c0_1, fv_c0_2, fv_c0_3, fv_c0_4, fv_c0_5, fv_c0_6, fv_c0_7, rf_c0_7, fv_c0_8, rf_c0_8, fv_c0_9, rf_c0_9, fv_c0_10, rf_c0_10, fv_c0_11, rf_c0_11, fv_c0_12, rf_c0_12, fv_c0_13, rf_c0_13, fv_c0_14, rf_c0_14, fv_c0_15, rf_c0_15, fv_c0_16, rf_c0_16, fv_c0_17, rf_c0_17, o_c1, fv_c1_0, fv_c1_1, fv_c1_2, rf_c1_2, o_c4, fv_c4_0, fv_c4_1, fv_c4_2, rf_c4_2, ia_c2, is_c2, ia_c3, is_c3, ia_c5, is_c5, ia_c6, is_c6, ia_c7, is_c7, ia_c8, is_c8, ia_c9, is_c9, ia_c10, is_c10, ia_c11, is_c11, e0, Li_s, Lr_s, Ll_s, On_s, lget, lset, clr_i, clr_r, clr_n, Kc_i, Kc_v, Kc_x, true_and, and_true, List.length_cons, List.length_nil, nlg, isLn, List.all_cons, List.all_nil, Bool.and_true, Bool.not_false, Nat.zero_le, Nat.reduceAdd, Nat.reduceLeDiff, ↓reduceIte, Int.reduceLT, Int.reduceLE, Int.reduceAdd, Int.reduceSub, Int.reduceMul, Int.reduceNeg, Int.reduceToNat, Int.reduceEq, not_true_eq_false, not_false_eq_true, Int.toNat_zero, true_or, or_true]
    rw [if_pos (by omega)]
    rfl
  | succ n ih =>
    intro i x h0 h1 hx
    have e1 := hT.cls h0 (show i < T.length by omega)
    have c1 := clsAt_in (i := i) ho
    have b1 := btN_lt (clsAt T i)
    have e2 := or_i hx b1
    rw [u41_4]
    simp (disch := first | omega | simp) only [u41_0, u41_1, u41_2, u41_3, u41_5, u41_6, u41_9, u41_12, u41_13, u41_14, u41_17, u41_20, u41_21, u41_22, u41_25, u41_26, u41_27, u41_30, u41_31, u41_32, u41_35, u41_38, u41_39, o_c0, fv_c0_0, fv_c0_1, fv_c0_2, fv_c0_3, fv_c0_4, fv_c0_5, fv_c0_6, fv_c0_7, rf_c0_7, fv_c0_8, rf_c0_8, fv_c0_9, rf_c0_9, fv_c0_10, rf_c0_10, fv_c0_11, rf_c0_11, fv_c0_12, rf_c0_12, fv_c0_13, rf_c0_13, fv_c0_14, rf_c0_14, fv_c0_15, rf_c0_15, fv_c0_16, rf_c0_16, fv_c0_17, rf_c0_17, o_c1, fv_c1_0, fv_c1_1, fv_c1_2, rf_c1_2, o_c4, fv_c4_0, fv_c4_1, fv_c4_2, rf_c4_2, ia_c2, is_c2, ia_c3, is_c3, ia_c5, is_c5, ia_c6, is_c6, ia_c7, is_c7, ia_c8, is_c8, ia_c9, is_c9, ia_c10, is_c10, ia_c11, is_c11, e0, e1, hop, Li_s, Lr_s, Ll_s, On_s, lget, lset, clr_i, clr_r, clr_n, Kc_i, Kc_v, Kc_x, true_and, and_true, List.length_cons, List.length_nil, nlg, isLn, List.all_cons, List.all_nil, Bool.and_true, Bool.not_false, Nat.zero_le, Nat.reduceAdd, Nat.reduceLeDiff, ↓reduceIte, Int.reduceLT, Int.reduceLE, Int.reduceAdd, Int.reduceSub, Int.reduceMul, Int.reduceNeg, Int.reduceToNat, Int.reduceEq, not_true_eq_false, not_false_eq_true, Int.toNat_zero, true_or, or_true]
    rw [if_neg (by omega)]
    simp only [ndF]
    by_cases hi : i = o
    · rw [if_pos hi, if_pos hi, ih (i + 1) x (by omega) (by omega) hx]
    · rw [if_neg hi, if_neg hi, (r_bit (by omega)).iff]
      simp (disch := first | omega | simp) only [u41_0, u41_1, u41_2, u41_3, u41_5, u41_6, u41_9, u41_12, u41_13, u41_14, u41_17, u41_20, u41_21, u41_22, u41_25, u41_26, u41_27, u41_30, u41_31, u41_32, u41_35, u41_38, u41_39, o_c0, fv_c0_0, fv_c0_1, fv_c0_2, fv_c0_3, fv_c0_4, fv_c0_5, fv_c0_6, fv_c0_7, rf_c0_7, fv_c0_8, rf_c0_8, fv_c0_9, rf_c0_9, fv_c0_10, rf_c0_10, fv_c0_11, rf_c0_11, fv_c0_12, rf_c0_12, fv_c0_13, rf_c0_13, fv_c0_14, rf_c0_14, fv_c0_15, rf_c0_15, fv_c0_16, rf_c0_16, fv_c0_17, rf_c0_17, o_c1, fv_c1_0, fv_c1_1, fv_c1_2, rf_c1_2, o_c4, fv_c4_0, fv_c4_1, fv_c4_2, rf_c4_2, ia_c2, is_c2, ia_c3, is_c3, ia_c5, is_c5, ia_c6, is_c6, ia_c7, is_c7, ia_c8, is_c8, ia_c9, is_c9, ia_c10, is_c10, ia_c11, is_c11, e2, Li_s, Lr_s, Ll_s, On_s, lget, lset, clr_i, clr_r, clr_n, Kc_i, Kc_v, Kc_x, true_and, and_true, List.length_cons, List.length_nil, nlg, isLn, List.all_cons, List.all_nil, Bool.and_true, Bool.not_false, Nat.zero_le, Nat.reduceAdd, Nat.reduceLeDiff, ↓reduceIte, Int.reduceLT, Int.reduceLE, Int.reduceAdd, Int.reduceSub, Int.reduceMul, Int.reduceNeg, Int.reduceToNat, Int.reduceEq, not_true_eq_false, not_false_eq_true, Int.toNat_zero, true_or, or_true]
      rw [ih (i + 1) _ (by omega) (by omega) (or_lt hx b1)]
theorem r_need (hc : c < 8) (hT : ChT σ c T) (ho : TnOk T) (hl : T.length ≤ 4) (hop : σ c 0 11 = o) (hor : -1 ≤ o ∧ o ≤ 3) : Rn (d + 2) 41 [vr c 0] σ (.inl (some (vi ((ndN T o : Nat) : Int)))) σ := by
  refine Rn.of ?_
  rw [e41]
  simp (disch := first | omega | simp) only [u41_0, u41_1, u41_2, u41_3, u41_5, u41_6, u41_9, u41_12, u41_13, u41_14, u41_17, u41_20, u41_21, u41_22, u41_25, u41_26, u41_27, u41_30, u41_31, u41_32, u41_35, u41_38, u41_39, Li_s, Lr_s, Ll_s, On_s, lget, lset, clr_i, clr_r, clr_n, Kc_i, Kc_v, Kc_x, true_and, and_true, List.length_cons, List.length_nil, nlg, isLn, List.all_cons, List.all_nil, Bool.and_true, Bool.not_false, Nat.zero_le, Nat.reduceAdd, Nat.reduceLeDiff, ↓reduceIte, Int.reduceLT, Int.reduceLE, Int.reduceAdd, Int.reduceSub, Int.reduceMul, Int.reduceNeg, Int.reduceToNat, Int.reduceEq, not_true_eq_false, not_false_eq_true, Int.toNat_zero, true_or, or_true]
  exact (l_need hc hT ho hl hop hor T.length 0 0 (by omega) (by omega) (by decide)).mpr ⟨rfl, rfl⟩
theorem pgetD1 {P : Pl} {x : Int × Int × Int} {i : Nat} (h : i < P.length) : (P ++ [x]).getD i (0, 0, 0) = P.getD i (0, 0, 0) := by
  simp [List.getD_eq_getElem?_getD, List.getElem?_append_left h]
theorem pgetD2 {P : Pl} {x : Int × Int × Int} : (P ++ [x]).getD P.length (0, 0, 0) = x := by
  simp [List.getD_eq_getElem?_getD]
theorem w_addPl (hc : c < 8) (hP : PlIs σ c P) (hl : P.length < 64) (k : ∀ σ', PlIs σ' c (P ++ [(s, a, t)]) → Fr (frG c) σ σ' → Q (.inl none) σ') : Wm d 40 [vr c 0, vi s, vi a, vi t] σ Q := by
  obtain ⟨p0, p1⟩ := hP
  have m1 : (3 * (P.length : Int)).toNat = 3 * P.length := by omega
  have m2 : (3 * (P.length : Int) + 1).toNat = 3 * P.length + 1 := by omega
  have m3 : (3 * (P.length : Int) + 2).toNat = 3 * P.length + 2 := by omega
  have e1 : ∀ x y z : Int, up (up (up σ c 10 (3 * P.length) x) c 10 (3 * P.length + 1) y) c 10 (3 * P.length + 2) z c 0 16 = (P.length : Int) := fun x y z => by simp [up_at, p0]
  rw [e40]
  simp (disch := first | omega | simp) only [u40_0, u40_1, u40_4, u40_6, u40_9, u40_10, u40_11, u40_14, u40_15, u40_17, u40_18, u40_21, u40_23, u40_24, u40_25, u40_26, u40_29, u40_31, u40_32, u40_33, u40_34, u40_35, u40_36, u40_39, u40_41, u40_42, u40_43, u40_44, u40_45, u40_46i, u40_46r, u40_47, u40_50, u40_51, u40_52, u40_55, o_c0, fv_c0_0, fv_c0_1, fv_c0_2, fv_c0_3, fv_c0_4, fv_c0_5, fv_c0_6, fv_c0_7, rf_c0_7, fv_c0_8, rf_c0_8, fv_c0_9, rf_c0_9, fv_c0_10, rf_c0_10, fv_c0_11, rf_c0_11, fv_c0_12, rf_c0_12, fv_c0_13, rf_c0_13, fv_c0_14, rf_c0_14, fv_c0_15, rf_c0_15, fv_c0_16, rf_c0_16, fv_c0_17, rf_c0_17, o_c1, fv_c1_0, fv_c1_1, fv_c1_2, rf_c1_2, o_c4, fv_c4_0, fv_c4_1, fv_c4_2, rf_c4_2, ia_c2, is_c2, ia_c3, is_c3, ia_c5, is_c5, ia_c6, is_c6, ia_c7, is_c7, ia_c8, is_c8, ia_c9, is_c9, ia_c10, is_c10, ia_c11, is_c11, p0, m1, m2, m3, e1, Li_s, Lr_s, Ll_s, On_s, lget, lset, clr_i, clr_r, clr_n, Kc_i, Kc_v, Kc_x, true_and, and_true, List.length_cons, List.length_nil, nlg, isLn, List.all_cons, List.all_nil, Bool.and_true, Bool.not_false, Nat.zero_le, Nat.reduceAdd, Nat.reduceLeDiff, ↓reduceIte, Int.reduceLT, Int.reduceLE, Int.reduceAdd, Int.reduceSub, Int.reduceMul, Int.reduceNeg, Int.reduceToNat, Int.reduceEq, not_true_eq_false, not_false_eq_true, Int.toNat_zero, true_or, or_true]
  rw [if_neg (by omega)]
  refine k _ ⟨by simp [up_at], fun i hi => ?_⟩ (Fr.tr (Fr.tr (Fr.tr (Fr.wr ⟨rfl, Or.inl rfl⟩) (Fr.wr ⟨rfl, Or.inl rfl⟩)) (Fr.wr ⟨rfl, Or.inl rfl⟩)) (Fr.wr ⟨rfl, Or.inr ⟨rfl, rfl⟩⟩))
  by_cases hi2 : i < P.length
  · rw [pgetD1 hi2]
    have := p1 i hi2
    simp [up_at, this, show ¬ 3 * i = 3 * P.length + 1 by omega, show ¬ 3 * i = 3 * P.length + 2 by omega, show ¬ 3 * i = 3 * P.length by omega, show ¬ 3 * i + 1 = 3 * P.length by omega, show ¬ 3 * i + 2 = 3 * P.length by omega, show ¬ 3 * i + 2 = 3 * P.length + 1 by omega, show ¬ 3 * i + 1 = 3 * P.length + 2 by omega, show ¬ i = P.length by omega]
  · obtain rfl : i = P.length := by simp at hi; omega
    rw [pgetD2]
    simp [up_at]
end GA
