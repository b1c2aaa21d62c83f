/-! THE REALISATION is laid out: cheapest, choose, write; the class's side -/
def chF (c : Int → Int) : Nat → Int → Int → Int
  | 0, _, b => b
  | r + 1, p, b => chF c r (p + 1) (if ¬ c p = -1 ∧ (b = -1 ∨ c p < c b) then p else b)
/-- the first placement of the least cost, or -1 -/
def chp (c : Int → Int) (N : Nat) : Int := chF c N 0 (-1)
theorem chF_s (c : Int → Int) (r : Nat) (p b : Int) : chF c (r + 1) p b = chF c r (p + 1) (if ¬ c p = -1 ∧ (b = -1 ∨ c p < c b) then p else b) := rfl
theorem chF_in {c : Int → Int} : ∀ (r : Nat) (p b : Int), (b = -1 ∨ (0 ≤ b ∧ b < p ∧ ¬ c b = -1)) → 0 ≤ p → (chF c r p b = -1 ∨ (0 ≤ chF c r p b ∧ chF c r p b < p + r ∧ ¬ c (chF c r p b) = -1))
  | 0, p, b, h, _ => by
    rcases h with h | h
    · exact Or.inl h
    · exact Or.inr ⟨h.1, by show b < p + ((0 : Nat) : Int); omega, h.2.2⟩
  | r + 1, p, b, h, h0 => by
    rw [chF_s]
    have := chF_in (c := c) r (p + 1) (if ¬ c p = -1 ∧ (b = -1 ∨ c p < c b) then p else b) (by
      split
      · next hc => exact Or.inr ⟨h0, by omega, hc.1⟩
      · rcases h with h | h
        · exact Or.inl h
        · exact Or.inr ⟨h.1, by omega, h.2.2⟩) (by omega)
    rcases this with h | h
    · exact Or.inl h
    · exact Or.inr ⟨h.1, by omega, h.2.2⟩
theorem chp_in (c : Int → Int) (N : Nat) : chp c N = -1 ∨ (0 ≤ chp c N ∧ chp c N < N ∧ ¬ c (chp c N) = -1) := by
  have := chF_in (c := c) N 0 (-1) (Or.inl rfl) (by omega)
  rw [Int.zero_add] at this
  exact this
/-- where the search found a way, the placement that it took -/
theorem lsS_at {F : Int} {cn dq kq : Int → Int} : ∀ (r : Nat) (q : Int) (a : Int × Int), 0 ≤ q → (a.1 = -1 ∨ (0 ≤ a.2 ∧ a.2 < q ∧ ¬ cn a.2 = -1 ∧ ¬ kq a.2 = 0 ∧ a.1 = F + dq a.2 + cn a.2)) → ((lsS F cn dq kq r q a).1 = -1 ∨ (0 ≤ (lsS F cn dq kq r q a).2 ∧ (lsS F cn dq kq r q a).2 < q + r ∧ ¬ cn (lsS F cn dq kq r q a).2 = -1 ∧ ¬ kq (lsS F cn dq kq r q a).2 = 0 ∧ (lsS F cn dq kq r q a).1 = F + dq (lsS F cn dq kq r q a).2 + cn (lsS F cn dq kq r q a).2))
  | 0, q, a, h0, h => by
    rcases h with h | h
    · exact Or.inl h
    · exact Or.inr ⟨h.1, by show a.2 < q + ((0 : Nat) : Int); omega, h.2.2⟩
  | r + 1, q, a, h0, h => by
    rw [lsS_s]
    have := lsS_at (F := F) (cn := cn) (dq := dq) (kq := kq) r (q + 1) (if cn q = -1 then a else if (a.1 = -1 ∨ F + dq q + cn q < a.1) ∧ ¬ kq q = 0 then (F + dq q + cn q, q) else a) (by omega) (by
      split
      · rcases h with h | h
        · exact Or.inl h
        · exact Or.inr ⟨h.1, by omega, h.2.2⟩
      · next hc =>
        split
        · next hd => exact Or.inr ⟨h0, by dsimp only; omega, hc, hd.2, rfl⟩
        · rcases h with h | h
          · exact Or.inl h
          · exact Or.inr ⟨h.1, by omega, h.2.2⟩)
    rcases this with h | h
    · exact Or.inl h
    · exact Or.inr ⟨h.1, by omega, h.2.2⟩
/-- the placements of the realisation that starts with a -/
def chs (fo : Nat → Int → Int) (a : Int) : Nat → Int
  | 0 => a
  | i + 1 => fo i (chs fo a i)
section CO
variable {d : Nat} {σ : Sg} {T : Nat → List (Int × Int)} {N : Nat → Nat} {p : Int} {n : Nat} {Q : Rs → Sg → Prop}
theorem fol_in {k i : Nat} {p : Int} (h : ¬ cst N (feA σ) (dsA σ) (kpA σ T) (k + 1) i p = -1) : 0 ≤ fol N (feA σ) (dsA σ) (kpA σ T) k i p ∧ fol N (feA σ) (dsA σ) (kpA σ T) k i p < N (i + 1) ∧ ¬ cst N (feA σ) (dsA σ) (kpA σ T) k (i + 1) (fol N (feA σ) (dsA σ) (kpA σ T) k i p) = -1 ∧ ¬ kpA σ T i p (fol N (feA σ) (dsA σ) (kpA σ T) k i p) = 0 ∧ cst N (feA σ) (dsA σ) (kpA σ T) (k + 1) i p = feA σ i p + dsA σ i p (fol N (feA σ) (dsA σ) (kpA σ T) k i p) + cst N (feA σ) (dsA σ) (kpA σ T) k (i + 1) (fol N (feA σ) (dsA σ) (kpA σ T) k i p) := by
  have := lsS_at (F := feA σ i p) (cn := cst N (feA σ) (dsA σ) (kpA σ T) k (i + 1)) (dq := dsA σ i p) (kq := kpA σ T i p) (N (i + 1)) 0 (-1, 0) (by omega) (Or.inl rfl)
  rcases this with h1 | h1
  · exact absurd h1 h
  · rw [Int.zero_add] at h1
    exact h1
/-- the way that the search lays down, chord by chord -/
abbrev way (σ : Sg) (T : Nat → List (Int × Int)) (N : Nat → Nat) (n : Nat) (a : Int) : Nat → Int := chs (fun i => fol N (feA σ) (dsA σ) (kpA σ T) (n - 2 - i) i) a
theorem way_in {a : Int} (ha : 0 ≤ a ∧ a < N 0) (h : ¬ cst N (feA σ) (dsA σ) (kpA σ T) (n - 1) 0 a = -1) : ∀ i, i < n → 0 ≤ way σ T N n a i ∧ way σ T N n a i < N i ∧ ¬ cst N (feA σ) (dsA σ) (kpA σ T) (n - 1 - i) i (way σ T N n a i) = -1
  | 0, _ => ⟨ha.1, ha.2, h⟩
  | i + 1, hi => by
    have ih := way_in ha h i (by omega)
    rw [show n - 1 - i = (n - 2 - i) + 1 by omega] at ih
    have := fol_in ih.2.2
    rw [show n - 1 - (i + 1) = n - 2 - i by omega]
    exact ⟨this.1, this.2.1, this.2.2.1⟩
theorem l_cheap {c : Int → Int} {m : Nat} (hm : m ≤ 64) (hc : ∀ q : Int, 0 ≤ q → q < m → σ 10 0 q.toNat = c q ∧ -1 ≤ c q ∧ c q ≤ 100000) : ∀ (r : Nat) (q b : Int) (x : Option Va), 0 ≤ q → q + r = (m : Int) → (b = -1 ∨ (0 ≤ b ∧ b < q ∧ ¬ c b = -1)) → (Wx d 58 4 [some (vr 8 4), some (vi (m : Int)), some (vi b), some (vi q), x] [] σ Q ↔ Q (.inl (some (vi (chF c r q b)))) σ) := by
  intro r
  induction r with
  | zero =>
    intro q b x h0 h1 hb
    rw [u58_4]
    simp (disch := first | omega | simp) only [u58_0, u58_1, u58_2, u58_3, u58_5, u58_6, u58_9, u58_10, u58_13, u58_14, u58_15, u58_16, u58_17, u58_19, u58_21, u58_22, u58_25, u58_26, u58_27, u58_30, u58_32, u58_33, u58_36, u58_37, u58_38, u58_39, u58_40, u58_43, u58_44, u58_45, u58_48, u58_51, u58_52, o_8_0, fv_8_0_0, fv_8_0_1, fv_8_0_2, fv_8_0_3, fv_8_0_4, rf_8_0_4, o_8_1, fv_8_1_0, fv_8_1_1, rf_8_1_1, o_8_4, fv_8_4_0, fv_8_4_1, fv_8_4_2, fv_8_4_3, fv_8_4_4, fv_8_4_5, fv_8_4_6, rf_8_4_6, o_8_5, fv_8_5_0, fv_8_5_1, fv_8_5_2, fv_8_5_3, fv_8_5_4, rf_8_5_4, fv_8_5_5, rf_8_5_5, o_8_15, fv_8_15_0, fv_8_15_1, fv_8_15_2, fv_8_15_3, fv_8_15_4, rf_8_15_4, o_8_16, fv_8_16_0, fv_8_16_1, fv_8_16_2, fv_8_16_3, fv_8_16_4, rf_8_16_4, fv_8_16_5, rf_8_16_5, ia_8_2, is_8_2, ia_8_6, is_8_6, ia_8_7, is_8_7, ia_8_8, is_8_8, ia_8_9, is_8_9, ia_8_14, is_8_14, ia_8_17, is_8_17, ia_8_18, is_8_18, ia_8_19, is_8_19, ia_8_20, is_8_20, ia_8_21, is_8_21, ia_8_22, is_8_22, ia_8_23, is_8_23, iz_8_12, iz_8_13, aa_3, ar_3, aa_10, ar_10, aa_11, ar_11, ia_10, is_10, ia_11, is_11, Li_s, Lr_s, Ll_s, On_s, lget, lset, clr_i, clr_r, clr_n, Kc_i, Kc_v, Kc_x, true_and, and_true, List.length_cons, List.length_nil, nlg, isLn, List.all_cons, List.all_nil, Bool.and_true, Bool.not_false, Nat.zero_le, Nat.reduceAdd, Nat.reduceLeDiff, ↓reduceIte, Int.reduceLT, Int.reduceLE, Int.reduceAdd, Int.reduceSub, Int.reduceMul, Int.reduceNeg, Int.reduceToNat, Int.reduceEq, not_true_eq_false, not_false_eq_true, Int.toNat_zero, true_or, or_true]
    rw [if_pos (by omega)]
    rfl
  | succ r ih =>
    intro q b x h0 h1 hb
    obtain ⟨e1, c1⟩ := hc q h0 (by omega)
    rw [u58_4]
    simp (disch := first | omega | simp) only [u58_0, u58_1, u58_2, u58_3, u58_5, u58_6, u58_9, u58_10, u58_13, u58_14, u58_15, u58_16, u58_17, u58_19, u58_21, u58_22, u58_25, u58_26, u58_27, u58_30, u58_32, u58_33, u58_36, u58_37, u58_38, u58_39, u58_40, u58_43, u58_44, u58_45, u58_48, u58_51, u58_52, o_8_0, fv_8_0_0, fv_8_0_1, fv_8_0_2, fv_8_0_3, fv_8_0_4, rf_8_0_4, o_8_1, fv_8_1_0, fv_8_1_1, rf_8_1_1, o_8_4, fv_8_4_0, fv_8_4_1, fv_8_4_2, fv_8_4_3, fv_8_4_4, fv_8_4_5, fv_8_4_6, rf_8_4_6, o_8_5, fv_8_5_0, fv_8_5_1, fv_8_5_2, fv_8_5_3, fv_8_5_4, rf_8_5_4, fv_8_5_5, rf_8_5_5, o_8_15, fv_8_15_0, fv_8_15_1, fv_8_15_2, fv_8_15_3, fv_8_15_4, rf_8_15_4, o_8_16, fv_8_16_0, fv_8_16_1, fv_8_16_2, fv_8_16_3, fv_8_16_4, rf_8_16_4, fv_8_16_5, rf_8_16_5, ia_8_2, is_8_2, ia_8_6, is_8_6, ia_8_7, is_8_7, ia_8_8, is_8_8, ia_8_9, is_8_9, ia_8_14, is_8_14, ia_8_17, is_8_17, ia_8_18, is_8_18, ia_8_19, is_8_19, ia_8_20, is_8_20, ia_8_21, is_8_21, ia_8_22, is_8_22, ia_8_23, is_8_23, iz_8_12, iz_8_13, aa_3, ar_3, aa_10, ar_10, aa_11, ar_11, ia_10, is_10, ia_11, is_11, e1, Li_s, Lr_s, Ll_s, On_s, lget, lset, clr_i, clr_r, clr_n, Kc_i, Kc_v, Kc_x, true_and, and_true, List.length_cons, List.length_nil, nlg, isLn, List.all_cons, List.all_nil, Bool.and_true, Bool.not_false, Nat.zero_le, Nat.reduceAdd, Nat.reduceLeDiff, ↓reduceIte, Int.reduceLT, Int.reduceLE, Int.reduceAdd, Int.reduceSub, Int.reduceMul, Int.reduceNeg, Int.reduceToNat, Int.reduceEq, not_true_eq_false, not_false_eq_true, Int.toNat_zero, true_or, or_true]
    rw [if_neg (by omega), chF_s]
    by_cases hq : c q = -1
    · rw [if_pos hq, if_neg (fun h => h.1 hq), ih (q + 1) b _ (by omega) (by omega) (by rcases hb with hb | hb; exact Or.inl hb; exact Or.inr ⟨hb.1, by omega, hb.2.2⟩)]
    · rw [if_neg hq]
      by_cases hb1 : b = -1
      · rw [if_pos hb1, if_pos ⟨hq, Or.inl hb1⟩, ih (q + 1) q _ (by omega) (by omega) (Or.inr ⟨h0, by omega, hq⟩)]
      · have hb2 : 0 ≤ b ∧ b < q ∧ ¬ c b = -1 := by
          rcases hb with h | h
          · exact absurd h hb1
          · exact h
        obtain ⟨e2, c2⟩ := hc b hb2.1 (by omega)
        rw [if_neg hb1]
        simp (disch := first | omega | simp) only [u58_0, u58_1, u58_2, u58_3, u58_5, u58_6, u58_9, u58_10, u58_13, u58_14, u58_15, u58_16, u58_17, u58_19, u58_21, u58_22, u58_25, u58_26, u58_27, u58_30, u58_32, u58_33, u58_36, u58_37, u58_38, u58_39, u58_40, u58_43, u58_44, u58_45, u58_48, u58_51, u58_52, o_8_0, fv_8_0_0, fv_8_0_1, fv_8_0_2, fv_8_0_3, fv_8_0_4, rf_8_0_4, o_8_1, fv_8_1_0, fv_8_1_1, rf_8_1_1, o_8_4, fv_8_4_0, fv_8_4_1, fv_8_4_2, fv_8_4_3, fv_8_4_4, fv_8_4_5, fv_8_4_6, rf_8_4_6, o_8_5, fv_8_5_0, fv_8_5_1, fv_8_5_2, fv_8_5_3, fv_8_5_4, rf_8_5_4, fv_8_5_5, rf_8_5_5, o_8_15, fv_8_15_0, fv_8_15_1, fv_8_15_2, fv_8_15_3, fv_8_15_4, rf_8_15_4, o_8_16, fv_8_16_0, fv_8_16_1, fv_8_16_2, fv_8_16_3, fv_8_16_4, rf_8_16_4, fv_8_16_5, rf_8_16_5, ia_8_2, is_8_2, ia_8_6, is_8_6, ia_8_7, is_8_7, ia_8_8, is_8_8, ia_8_9, is_8_9, ia_8_14, is_8_14, ia_8_17, is_8_17, ia_8_18, is_8_18, ia_8_19, is_8_19, ia_8_20, is_8_20, ia_8_21, is_8_21, ia_8_22, is_8_22, ia_8_23, is_8_23, iz_8_12, iz_8_13, aa_3, ar_3, aa_10, ar_10, aa_11, ar_11, ia_10, is_10, ia_11, is_11, e2, Li_s, Lr_s, Ll_s, On_s, lget, lset, clr_i, clr_r, clr_n, Kc_i, Kc_v, Kc_x, true_and, and_true, List.length_cons, List.length_nil, nlg, isLn, List.all_cons, List.all_nil, Bool.and_true, Bool.not_false, Nat.zero_le, Nat.reduceAdd, Nat.reduceLeDiff, ↓reduceIte, Int.reduceLT, Int.reduceLE, Int.reduceAdd, Int.reduceSub, Int.reduceMul, Int.reduceNeg, Int.reduceToNat, Int.reduceEq, not_true_eq_false, not_false_eq_true, Int.toNat_zero, true_or, or_true]
        by_cases hlt : c q < c b
        · rw [if_neg (by omega), if_pos ⟨hq, Or.inr hlt⟩, ih (q + 1) q _ (by omega) (by omega) (Or.inr ⟨h0, by omega, hq⟩)]
        · rw [if_pos (by omega), if_neg (fun h => by rcases h.2 with h | h; exact hb1 h; exact hlt h), ih (q + 1) b _ (by omega) (by omega) (Or.inr ⟨hb2.1, by omega, hb2.2.2⟩)]
theorem r_cheapest {c : Int → Int} {m : Nat} (hm : m ≤ 64) (hc : ∀ q : Int, 0 ≤ q → q < m → σ 10 0 q.toNat = c q ∧ -1 ≤ c q ∧ c q ≤ 100000) : Rn d 58 [vr 8 4, vi (m : Int)] σ (.inl (some (vi (chp c m)))) σ := by
  refine Rn.of ?_
  rw [e58]
  simp (disch := first | omega | simp) only [u58_0, u58_1, u58_2, u58_3, u58_5, u58_6, u58_9, u58_10, u58_13, u58_14, u58_15, u58_16, u58_17, u58_19, u58_21, u58_22, u58_25, u58_26, u58_27, u58_30, u58_32, u58_33, u58_36, u58_37, u58_38, u58_39, u58_40, u58_43, u58_44, u58_45, u58_48, u58_51, u58_52, Li_s, Lr_s, Ll_s, On_s, lget, lset, clr_i, clr_r, clr_n, Kc_i, Kc_v, Kc_x, true_and, and_true, List.length_cons, List.length_nil, nlg, isLn, List.all_cons, List.all_nil, Bool.and_true, Bool.not_false, Nat.zero_le, Nat.reduceAdd, Nat.reduceLeDiff, ↓reduceIte, Int.reduceLT, Int.reduceLE, Int.reduceAdd, Int.reduceSub, Int.reduceMul, Int.reduceNeg, Int.reduceToNat, Int.reduceEq, not_true_eq_false, not_false_eq_true, Int.toNat_zero, true_or, or_true]
  exact (l_cheap hm hc m 0 (-1) none (by omega) (by omega) (Or.inl rfl)).mpr ⟨rfl, rfl⟩
end CO
