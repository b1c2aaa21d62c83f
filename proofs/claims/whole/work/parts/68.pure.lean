/-! THE STATE'S OWN fees, distances, rules, search; the class's are these -/
section CG
theorem dbl_cg {w w' : Int → Int} {k : Int} : ∀ (n : Nat) (i : Int), (∀ v : Int, i ≤ v → v < i + n → w v = w' v) → dbl w k n i = dbl w' k n i
  | 0, _, _ => rfl
  | n + 1, i, h => by
    simp only [dbl]
    rw [h i (by omega) (by omega), dbl_cg n (i + 1) (fun v v0 v1 => h v (by omega) (by omega))]
theorem fee3_cg {w w' : Int → Int} {l s t : Int} (h : ∀ v : Int, 0 ≤ v → v ≤ 3 → w v = w' v) : fee3 w l s t = fee3 w' l s t := by
  have e : ∀ k, dbs w k = dbs w' k := fun k => by
    unfold dbs
    rw [dbl_cg 4 0 (fun v v0 v1 => h v v0 (by omega))]
  unfold fee3
  rw [e, e, e]
theorem dst_cg {a a' b b' : Int → Int} (ha : ∀ v : Int, 0 ≤ v → v ≤ 3 → a v = a' v) (hb : ∀ v : Int, 0 ≤ v → v ≤ 3 → b v = b' v) : dst a b = dst a' b' := by
  unfold dst
  rw [ha 0 (by omega) (by omega), ha 1 (by omega) (by omega), ha 2 (by omega) (by omega), hb 0 (by omega) (by omega), hb 1 (by omega) (by omega), hb 2 (by omega) (by omega)]
theorem bPar_cg {a a' b b' : Int → Int} {u w : Int} (h1 : a u = a' u) (h2 : a w = a' w) (h3 : b u = b' u) (h4 : b w = b' w) : bPar a b u w = bPar a' b' u w := by
  unfold bPar
  rw [h1, h2, h3, h4]
theorem bLea_cg {a a' b b' : Int → Int} {l v : Int} (h1 : a v = a' v) (h3 : b v = b' v) : bLea l a b v = bLea l a' b' v := by
  unfold bLea
  rw [h1, h3]
theorem bSev_cg {a a' b b' : Int → Int} {l v : Int} (h1 : a v = a' v) (h3 : b v = b' v) : bSev l a b v = bSev l a' b' v := by
  unfold bSev
  rw [h1, h3]
theorem bStp_cg {a a' b b' c c' e e' : Int → Int} {v : Int} (h1 : a v = a' v) (h2 : b v = b' v) (h3 : c v = c' v) (h4 : e v = e' v) : bStp a b c e v = bStp a' b' c' e' v := by
  unfold bStp
  rw [h1, h2, h3, h4]
theorem ltA_cg {T : List (Int × Int)} {a a' : Int → Int} {v : Int} (h : a v = a' v) : ltA T a v = ltA T a' v := by
  unfold ltA
  rw [h]
theorem kps_cg {T T' : List (Int × Int)} {a a' b b' : Int → Int} {l s : Int} (ha : ∀ v : Int, 0 ≤ v → v ≤ 3 → a v = a' v) (hb : ∀ v : Int, 0 ≤ v → v ≤ 3 → b v = b' v) : kps l s a b (ltA T a) (ltA T' b) = kps l s a' b' (ltA T a') (ltA T' b') := by
  have a0 := ha 0 (by omega) (by omega)
  have a1 := ha 1 (by omega) (by omega)
  have a2 := ha 2 (by omega) (by omega)
  have a3 := ha 3 (by omega) (by omega)
  have b0 := hb 0 (by omega) (by omega)
  have b1 := hb 1 (by omega) (by omega)
  have b2 := hb 2 (by omega) (by omega)
  have b3 := hb 3 (by omega) (by omega)
  unfold kps
  rw [bLea_cg a0 b0, bSev_cg a0 b0, bStp_cg a0 b0 (ltA_cg a0) (ltA_cg b0), bPar_cg a0 a1 b0 b1, bPar_cg a0 a2 b0 b2, bPar_cg a0 a3 b0 b3, bLea_cg a1 b1, bSev_cg a1 b1, bStp_cg a1 b1 (ltA_cg a1) (ltA_cg b1), bPar_cg a1 a2 b1 b2, bPar_cg a1 a3 b1 b3, bLea_cg a2 b2, bSev_cg a2 b2, bStp_cg a2 b2 (ltA_cg a2) (ltA_cg b2), bPar_cg a2 a3 b2 b3, bLea_cg a3 b3, bSev_cg a3 b3, bStp_cg a3 b3 (ltA_cg a3) (ltA_cg b3)]
theorem lsS_cg {F F' : Int} {cn cn' dq dq' kq kq' : Int → Int} (hF : F = F') : ∀ (r : Nat) (q : Int) (a : Int × Int), (∀ z : Int, q ≤ z → z < q + r → cn z = cn' z ∧ dq z = dq' z ∧ kq z = kq' z) → lsS F cn dq kq r q a = lsS F' cn' dq' kq' r q a
  | 0, _, _, _ => rfl
  | r + 1, q, a, h => by
    obtain ⟨h1, h2, h3⟩ := h q (by omega) (by omega)
    rw [lsS_s, lsS_s, h1, h2, h3, hF]
    exact lsS_cg rfl r (q + 1) _ (fun z z0 z1 => h z (by omega) (by omega))
/-- two searches that agree on the placements there are -/
def Agr (n : Nat) (N : Nat → Nat) (fe fe' : Nat → Int → Int) (ds ds' kp kp' : Nat → Int → Int → Int) : Prop := (∀ i, i < n → ∀ p : Int, 0 ≤ p → p < N i → fe i p = fe' i p) ∧ ∀ i, i + 1 < n → ∀ p q : Int, 0 ≤ p → p < N i → 0 ≤ q → q < N (i + 1) → ds i p q = ds' i p q ∧ kp i p q = kp' i p q
variable {n : Nat} {N : Nat → Nat} {fe fe' : Nat → Int → Int} {ds ds' kp kp' : Nat → Int → Int → Int}
theorem cst_cg (h : Agr n N fe fe' ds ds' kp kp') : ∀ (k i : Nat) (p : Int), i + k < n → 0 ≤ p → p < N i → cst N fe ds kp k i p = cst N fe' ds' kp' k i p
  | 0, i, p, h1, h2, h3 => h.1 i (by omega) p h2 h3
  | k + 1, i, p, h1, h2, h3 => by
    simp only [cst]
    rw [lsS_cg (h.1 i (by omega) p h2 h3) (N (i + 1)) 0 (-1, 0) (fun z z0 z1 => ⟨cst_cg h k (i + 1) z (by omega) z0 (by omega), (h.2 i (by omega) p z h2 h3 z0 (by omega)).1, (h.2 i (by omega) p z h2 h3 z0 (by omega)).2⟩)]
theorem fol_cg (h : Agr n N fe fe' ds ds' kp kp') (k i : Nat) (p : Int) (h1 : i + k + 1 < n) (h2 : 0 ≤ p) (h3 : p < N i) : fol N fe ds kp k i p = fol N fe' ds' kp' k i p := by
  unfold fol
  rw [lsS_cg (h.1 i (by omega) p h2 h3) (N (i + 1)) 0 (-1, 0) (fun z z0 z1 => ⟨cst_cg h k (i + 1) z (by omega) z0 (by omega), (h.2 i (by omega) p z h2 h3 z0 (by omega)).1, (h.2 i (by omega) p z h2 h3 z0 (by omega)).2⟩)]
theorem chF_cg {c c' : Int → Int} {M : Int} (h : ∀ z : Int, 0 ≤ z → z < M → c z = c' z) : ∀ (r : Nat) (p b : Int), 0 ≤ p → p + r ≤ M → (b = -1 ∨ (0 ≤ b ∧ b < M)) → chF c r p b = chF c' r p b
  | 0, _, _, _, _, _ => rfl
  | r + 1, p, b, h0, h1, hb => by
    rw [chF_s, chF_s, h p h0 (by omega)]
    have e : (¬ c' p = -1 ∧ (b = -1 ∨ c' p < c b)) ↔ (¬ c' p = -1 ∧ (b = -1 ∨ c' p < c' b)) := by
      rcases hb with hb | hb
      · constructor
        · exact fun q => ⟨q.1, Or.inl hb⟩
        · exact fun q => ⟨q.1, Or.inl hb⟩
      · rw [h b hb.1 hb.2]
    rw [show (if ¬ c' p = -1 ∧ (b = -1 ∨ c' p < c b) then p else b) = (if ¬ c' p = -1 ∧ (b = -1 ∨ c' p < c' b) then p else b) by simp only [e]]
    refine chF_cg h r (p + 1) _ (by omega) (by omega) ?_
    split
    · exact Or.inr ⟨h0, by omega⟩
    · exact hb
theorem chp_cg {c c' : Int → Int} {M : Nat} (h : ∀ z : Int, 0 ≤ z → z < M → c z = c' z) : chp c M = chp c' M := chF_cg h M 0 (-1) (by omega) (by omega) (Or.inl rfl)
theorem anR_cg {g g' : Int → Int} : ∀ (r : Nat) (p : Int), (∀ z : Int, p ≤ z → z < p + r → g z = g' z) → anR g r p = anR g' r p
  | 0, _, _ => rfl
  | r + 1, p, h => by
    rw [anR_s, anR_s, h p (by omega) (by omega), anR_cg r (p + 1) (fun z z0 z1 => h z (by omega) (by omega))]
theorem rcA_cg (h : Agr n N fe fe' ds ds' kp kp') : ∀ (i : Nat) (q : Int), i < n → 0 ≤ q → rcA N kp i q = rcA N kp' i q
  | 0, _, _, _ => rfl
  | i + 1, q, h1, h2 => by
    simp only [rcA, rcS]
    by_cases hq : q < N (i + 1)
    · rw [if_pos hq, if_pos hq]
      refine anR_cg (N i) 0 (fun z z0 z1 => ?_)
      rw [rcA_cg h i z (by omega) z0, (h.2 i h1 z q z0 (by omega) h2 hq).2]
    · rw [if_neg hq, if_neg hq]
theorem fuR_cg (h : Agr n N fe fe' ds ds' kp kp') : ∀ (r i : Nat), i + r < n → fuR N kp r i = fuR N kp' r i
  | 0, _, _ => rfl
  | r + 1, i, h1 => by
    rw [fuR_s, fuR_s, anR_cg 64 0 (fun z z0 z1 => rcA_cg h i z (by omega) z0), fuR_cg h r (i + 1) (by omega)]
end CG
/-- the state's fees, distances, rules -/
def feP (f mi : Int) (x : Cho) (p : Int) : Int := fee3 (sdP f x p) (led f mi) (svc (ful x.2.2.2.1) (chT f x)) (thc (ful x.2.2.2.1) (chT f x))
def dsP (f : Int) (x y : Cho) (p q : Int) : Int := dst (sdP f x p) (sdP f y q)
def kpP (f mi : Int) (x y : Cho) (p q : Int) : Int := kps (led f mi) (svc (ful x.2.2.2.1) (chT f x)) (sdP f x p) (sdP f y q) (ltA (chT f x) (sdP f x p)) (ltA (chT f y) (sdP f y q))
abbrev nP (f : Int) (C : Nat → Cho) (i : Nat) : Nat := (chP f (C i)).length
abbrev fP (f mi : Int) (C : Nat → Cho) (i : Nat) : Int → Int := feP f mi (C i)
abbrev dP (f : Int) (C : Nat → Cho) (i : Nat) : Int → Int → Int := dsP f (C i) (C (i + 1))
abbrev kP (f mi : Int) (C : Nat → Cho) (i : Nat) : Int → Int → Int := kpP f mi (C i) (C (i + 1))
section CE
variable {d : Nat} {σ σ' : Sg} {c : Nat} {f mi : Int} {n i : Nat} {C : Nat → Cho} {W : Option (Nat → Int)} {L : List Flt} {x y : Cho} {a k m s b p q v : Int} {Q : Rs → Sg → Prop}
theorem feA_P (h : ChI σ c f mi x) (hB : ChB σ c f x) (hP : PlIs σ c (chP f x)) (hp : 0 ≤ p ∧ p < (chP f x).length) : feA σ c p = feP f mi x p := by
  unfold feA feP
  rw [h.2.2.2.1 (by have := hB.1; omega), hB.2.2.2.2.2.1.2.2.2.1, hB.2.2.2.2.2.1.2.2.2.2]
  exact fee3_cg (fun v v0 v1 => sO_sd h hP hp ⟨v0, v1⟩)
theorem dsA_P (h : ChI σ c f mi x) (hP : PlIs σ c (chP f x)) (hp : 0 ≤ p ∧ p < (chP f x).length) (h' : ChI σ (c + 1) f mi y) (hP' : PlIs σ (c + 1) (chP f y)) (hq : 0 ≤ q ∧ q < (chP f y).length) : dsA σ c p q = dsP f x y p q := dst_cg (fun v v0 v1 => sO_sd h hP hp ⟨v0, v1⟩) (fun v v0 v1 => sO_sd h' hP' hq ⟨v0, v1⟩)
theorem kpA_P (h : ChI σ c f mi (C c)) (hB : ChB σ c f (C c)) (hP : PlIs σ c (chP f (C c))) (hp : 0 ≤ p ∧ p < (chP f (C c)).length) (h' : ChI σ (c + 1) f mi (C (c + 1))) (hP' : PlIs σ (c + 1) (chP f (C (c + 1)))) (hq : 0 ≤ q ∧ q < (chP f (C (c + 1))).length) : kpA σ (fun i => chT f (C i)) c p q = kpP f mi (C c) (C (c + 1)) p q := by
  unfold kpA kpP
  rw [h.2.2.2.1 (by have := hB.1; omega), hB.2.2.2.2.2.1.2.2.2.1]
  exact kps_cg (fun v v0 v1 => sO_sd h hP hp ⟨v0, v1⟩) (fun v v0 v1 => sO_sd h' hP' hq ⟨v0, v1⟩)
theorem agr (hS : Sml) (hn : n ≤ 8) (hC : ∀ c, c < 8 → ChI σ c f mi (C c)) (hg : ∀ i, i < n → σ i 0 17 = 1) : Agr n (nP f C) (feA σ) (fP f mi C) (dsA σ) (dP f C) (kpA σ (fun i => chT f (C i))) (kP f mi C) := by
  refine ⟨fun i hi p p0 p1 => ?_, fun i hi p q p0 p1 q0 q1 => ?_⟩
  · have h := hC i (by omega)
    obtain ⟨_, hP, hB⟩ := h.chG hS (hg i hi)
    exact feA_P h hB hP ⟨p0, p1⟩
  · have h := hC i (by omega)
    obtain ⟨_, hP, hB⟩ := h.chG hS (hg i (by omega))
    have h' := hC (i + 1) (by omega)
    obtain ⟨_, hP', hB'⟩ := h'.chG hS (hg (i + 1) hi)
    exact ⟨dsA_P h hP ⟨p0, p1⟩ h' hP' ⟨q0, q1⟩, kpA_P h hB hP ⟨p0, p1⟩ h' hP' ⟨q0, q1⟩⟩
theorem p_note {w : Nat → Int} (hS : Sml) (h : CI σ f mi n C (some w) L) (hi : i < n) (hv : 0 ≤ v ∧ v ≤ 3) : Rn (d + 2) 8 [vr 8 0, vi (i : Int), vi v] σ (.inl (some (vi (sdP f (C i) (w i) v)))) σ := by
  have e0 := h.2.2.2.2.1
  have hn := h.2.2.1
  obtain ⟨w1, w2, w3, w4⟩ := h.2.2.2.2.2.2.2.2 i hi
  have hI := h.2.2.2.2.2.1 i (by omega)
  obtain ⟨hG, hP, hB⟩ := hI.chG hS w2
  have h64 := hG.2.2.2.1
  refine Rn.of ?_
  rw [e8]
  simp (disch := first | omega | simp) only [u8_0, u8_1, u8_2, u8_3, u8_6, u8_7, u8_8, u8_9, u8_12, u8_15, u8_16, u8_19, u8_20, u8_23, u8_24, u8_27, u8_28, u8_29, u8_32, o_8_0, fv_8_0_0, fv_8_0_1, fv_8_0_2, fv_8_0_3, fv_8_0_4, rf_8_0_4, o_8_1, fv_8_1_0, fv_8_1_1, rf_8_1_1, o_8_4, fv_8_4_0, fv_8_4_1, fv_8_4_2, fv_8_4_3, fv_8_4_4, fv_8_4_5, fv_8_4_6, rf_8_4_6, o_8_5, fv_8_5_0, fv_8_5_1, fv_8_5_2, fv_8_5_3, fv_8_5_4, rf_8_5_4, fv_8_5_5, rf_8_5_5, o_8_15, fv_8_15_0, fv_8_15_1, fv_8_15_2, fv_8_15_3, fv_8_15_4, rf_8_15_4, o_8_16, fv_8_16_0, fv_8_16_1, fv_8_16_2, fv_8_16_3, fv_8_16_4, rf_8_16_4, fv_8_16_5, rf_8_16_5, ia_8_2, is_8_2, ia_8_6, is_8_6, ia_8_7, is_8_7, ia_8_8, is_8_8, ia_8_9, is_8_9, ia_8_14, is_8_14, ia_8_17, is_8_17, ia_8_18, is_8_18, ia_8_19, is_8_19, ia_8_20, is_8_20, ia_8_21, is_8_21, ia_8_22, is_8_22, ia_8_23, is_8_23, iz_8_12, iz_8_13, aa_3, ar_3, aa_10, ar_10, aa_11, ar_11, ia_10, is_10, ia_11, is_11, Li_s, Lr_s, Ll_s, On_s, lget, lset, clr_i, clr_r, clr_n, Kc_i, Kc_v, Kc_x, true_and, and_true, List.length_cons, List.length_nil, nlg, isLn, List.all_cons, List.all_nil, Bool.and_true, Bool.not_false, Nat.zero_le, Nat.reduceAdd, Nat.reduceLeDiff, ↓reduceIte, Int.reduceLT, Int.reduceLE, Int.reduceAdd, Int.reduceSub, Int.reduceMul, Int.reduceNeg, Int.reduceToNat, Int.reduceEq, not_true_eq_false, not_false_eq_true, Int.toNat_zero, true_or, or_true]
  rw [(r_ckV (by omega) (by omega)).iff]
  simp (disch := first | omega | simp) only [u8_0, u8_1, u8_2, u8_3, u8_6, u8_7, u8_8, u8_9, u8_12, u8_15, u8_16, u8_19, u8_20, u8_23, u8_24, u8_27, u8_28, u8_29, u8_32, o_8_0, fv_8_0_0, fv_8_0_1, fv_8_0_2, fv_8_0_3, fv_8_0_4, rf_8_0_4, o_8_1, fv_8_1_0, fv_8_1_1, rf_8_1_1, o_8_4, fv_8_4_0, fv_8_4_1, fv_8_4_2, fv_8_4_3, fv_8_4_4, fv_8_4_5, fv_8_4_6, rf_8_4_6, o_8_5, fv_8_5_0, fv_8_5_1, fv_8_5_2, fv_8_5_3, fv_8_5_4, rf_8_5_4, fv_8_5_5, rf_8_5_5, o_8_15, fv_8_15_0, fv_8_15_1, fv_8_15_2, fv_8_15_3, fv_8_15_4, rf_8_15_4, o_8_16, fv_8_16_0, fv_8_16_1, fv_8_16_2, fv_8_16_3, fv_8_16_4, rf_8_16_4, fv_8_16_5, rf_8_16_5, ia_8_2, is_8_2, ia_8_6, is_8_6, ia_8_7, is_8_7, ia_8_8, is_8_8, ia_8_9, is_8_9, ia_8_14, is_8_14, ia_8_17, is_8_17, ia_8_18, is_8_18, ia_8_19, is_8_19, ia_8_20, is_8_20, ia_8_21, is_8_21, ia_8_22, is_8_22, ia_8_23, is_8_23, iz_8_12, iz_8_13, aa_3, ar_3, aa_10, ar_10, aa_11, ar_11, ia_10, is_10, ia_11, is_11, e0, Li_s, Lr_s, Ll_s, On_s, lget, lset, clr_i, clr_r, clr_n, Kc_i, Kc_v, Kc_x, true_and, and_true, List.length_cons, List.length_nil, nlg, isLn, List.all_cons, List.all_nil, Bool.and_true, Bool.not_false, Nat.zero_le, Nat.reduceAdd, Nat.reduceLeDiff, ↓reduceIte, Int.reduceLT, Int.reduceLE, Int.reduceAdd, Int.reduceSub, Int.reduceMul, Int.reduceNeg, Int.reduceToNat, Int.reduceEq, not_true_eq_false, not_false_eq_true, Int.toNat_zero, true_or, or_true]
  rw [(r_ckC (by omega) (by omega)).iff]
  simp (disch := first | omega | simp) only [u8_0, u8_1, u8_2, u8_3, u8_6, u8_7, u8_8, u8_9, u8_12, u8_15, u8_16, u8_19, u8_20, u8_23, u8_24, u8_27, u8_28, u8_29, u8_32, o_8_0, fv_8_0_0, fv_8_0_1, fv_8_0_2, fv_8_0_3, fv_8_0_4, rf_8_0_4, o_8_1, fv_8_1_0, fv_8_1_1, rf_8_1_1, o_8_4, fv_8_4_0, fv_8_4_1, fv_8_4_2, fv_8_4_3, fv_8_4_4, fv_8_4_5, fv_8_4_6, rf_8_4_6, o_8_5, fv_8_5_0, fv_8_5_1, fv_8_5_2, fv_8_5_3, fv_8_5_4, rf_8_5_4, fv_8_5_5, rf_8_5_5, o_8_15, fv_8_15_0, fv_8_15_1, fv_8_15_2, fv_8_15_3, fv_8_15_4, rf_8_15_4, o_8_16, fv_8_16_0, fv_8_16_1, fv_8_16_2, fv_8_16_3, fv_8_16_4, rf_8_16_4, fv_8_16_5, rf_8_16_5, ia_8_2, is_8_2, ia_8_6, is_8_6, ia_8_7, is_8_7, ia_8_8, is_8_8, ia_8_9, is_8_9, ia_8_14, is_8_14, ia_8_17, is_8_17, ia_8_18, is_8_18, ia_8_19, is_8_19, ia_8_20, is_8_20, ia_8_21, is_8_21, ia_8_22, is_8_22, ia_8_23, is_8_23, iz_8_12, iz_8_13, aa_3, ar_3, aa_10, ar_10, aa_11, ar_11, ia_10, is_10, ia_11, is_11, Li_s, Lr_s, Ll_s, On_s, lget, lset, clr_i, clr_r, clr_n, Kc_i, Kc_v, Kc_x, true_and, and_true, List.length_cons, List.length_nil, nlg, isLn, List.all_cons, List.all_nil, Bool.and_true, Bool.not_false, Nat.zero_le, Nat.reduceAdd, Nat.reduceLeDiff, ↓reduceIte, Int.reduceLT, Int.reduceLE, Int.reduceAdd, Int.reduceSub, Int.reduceMul, Int.reduceNeg, Int.reduceToNat, Int.reduceEq, not_true_eq_false, not_false_eq_true, Int.toNat_zero, true_or, or_true]
  rw [(r_ckL h).iff]
  simp (disch := first | omega | simp) only [u8_0, u8_1, u8_2, u8_3, u8_6, u8_7, u8_8, u8_9, u8_12, u8_15, u8_16, u8_19, u8_20, u8_23, u8_24, u8_27, u8_28, u8_29, u8_32, o_8_0, fv_8_0_0, fv_8_0_1, fv_8_0_2, fv_8_0_3, fv_8_0_4, rf_8_0_4, o_8_1, fv_8_1_0, fv_8_1_1, rf_8_1_1, o_8_4, fv_8_4_0, fv_8_4_1, fv_8_4_2, fv_8_4_3, fv_8_4_4, fv_8_4_5, fv_8_4_6, rf_8_4_6, o_8_5, fv_8_5_0, fv_8_5_1, fv_8_5_2, fv_8_5_3, fv_8_5_4, rf_8_5_4, fv_8_5_5, rf_8_5_5, o_8_15, fv_8_15_0, fv_8_15_1, fv_8_15_2, fv_8_15_3, fv_8_15_4, rf_8_15_4, o_8_16, fv_8_16_0, fv_8_16_1, fv_8_16_2, fv_8_16_3, fv_8_16_4, rf_8_16_4, fv_8_16_5, rf_8_16_5, ia_8_2, is_8_2, ia_8_6, is_8_6, ia_8_7, is_8_7, ia_8_8, is_8_8, ia_8_9, is_8_9, ia_8_14, is_8_14, ia_8_17, is_8_17, ia_8_18, is_8_18, ia_8_19, is_8_19, ia_8_20, is_8_20, ia_8_21, is_8_21, ia_8_22, is_8_22, ia_8_23, is_8_23, iz_8_12, iz_8_13, aa_3, ar_3, aa_10, ar_10, aa_11, ar_11, ia_10, is_10, ia_11, is_11, Li_s, Lr_s, Ll_s, On_s, lget, lset, clr_i, clr_r, clr_n, Kc_i, Kc_v, Kc_x, true_and, and_true, List.length_cons, List.length_nil, nlg, isLn, List.all_cons, List.all_nil, Bool.and_true, Bool.not_false, Nat.zero_le, Nat.reduceAdd, Nat.reduceLeDiff, ↓reduceIte, Int.reduceLT, Int.reduceLE, Int.reduceAdd, Int.reduceSub, Int.reduceMul, Int.reduceNeg, Int.reduceToNat, Int.reduceEq, not_true_eq_false, not_false_eq_true, Int.toNat_zero, true_or, or_true]
  rw [(r_soundR (by omega) (by omega) hv).iff, w1, sO_sd hI hP ⟨w3, w4⟩ hv]
  simp (disch := first | omega | simp) only [u8_0, u8_1, u8_2, u8_3, u8_6, u8_7, u8_8, u8_9, u8_12, u8_15, u8_16, u8_19, u8_20, u8_23, u8_24, u8_27, u8_28, u8_29, u8_32, o_8_0, fv_8_0_0, fv_8_0_1, fv_8_0_2, fv_8_0_3, fv_8_0_4, rf_8_0_4, o_8_1, fv_8_1_0, fv_8_1_1, rf_8_1_1, o_8_4, fv_8_4_0, fv_8_4_1, fv_8_4_2, fv_8_4_3, fv_8_4_4, fv_8_4_5, fv_8_4_6, rf_8_4_6, o_8_5, fv_8_5_0, fv_8_5_1, fv_8_5_2, fv_8_5_3, fv_8_5_4, rf_8_5_4, fv_8_5_5, rf_8_5_5, o_8_15, fv_8_15_0, fv_8_15_1, fv_8_15_2, fv_8_15_3, fv_8_15_4, rf_8_15_4, o_8_16, fv_8_16_0, fv_8_16_1, fv_8_16_2, fv_8_16_3, fv_8_16_4, rf_8_16_4, fv_8_16_5, rf_8_16_5, ia_8_2, is_8_2, ia_8_6, is_8_6, ia_8_7, is_8_7, ia_8_8, is_8_8, ia_8_9, is_8_9, ia_8_14, is_8_14, ia_8_17, is_8_17, ia_8_18, is_8_18, ia_8_19, is_8_19, ia_8_20, is_8_20, ia_8_21, is_8_21, ia_8_22, is_8_22, ia_8_23, is_8_23, iz_8_12, iz_8_13, aa_3, ar_3, aa_10, ar_10, aa_11, ar_11, ia_10, is_10, ia_11, is_11, Li_s, Lr_s, Ll_s, On_s, lget, lset, clr_i, clr_r, clr_n, Kc_i, Kc_v, Kc_x, true_and, and_true, List.length_cons, List.length_nil, nlg, isLn, List.all_cons, List.all_nil, Bool.and_true, Bool.not_false, Nat.zero_le, Nat.reduceAdd, Nat.reduceLeDiff, ↓reduceIte, Int.reduceLT, Int.reduceLE, Int.reduceAdd, Int.reduceSub, Int.reduceMul, Int.reduceNeg, Int.reduceToNat, Int.reduceEq, not_true_eq_false, not_false_eq_true, Int.toNat_zero, true_or, or_true]
theorem p_noteV (ha : v < 0 ∨ 4 ≤ v) (hr : -2147483648 ≤ v ∧ v ≤ 2147483647) : Rn (d + 1) 8 [vr 8 0, vi b, vi v] σ (.inr 1) σ := by
  refine Rn.of ?_
  rw [e8]
  simp (disch := first | omega | simp) only [u8_0, u8_1, u8_2, u8_3, u8_6, u8_7, u8_8, u8_9, u8_12, u8_15, u8_16, u8_19, u8_20, u8_23, u8_24, u8_27, u8_28, u8_29, u8_32, o_8_0, fv_8_0_0, fv_8_0_1, fv_8_0_2, fv_8_0_3, fv_8_0_4, rf_8_0_4, o_8_1, fv_8_1_0, fv_8_1_1, rf_8_1_1, o_8_4, fv_8_4_0, fv_8_4_1, fv_8_4_2, fv_8_4_3, fv_8_4_4, fv_8_4_5, fv_8_4_6, rf_8_4_6, o_8_5, fv_8_5_0, fv_8_5_1, fv_8_5_2, fv_8_5_3, fv_8_5_4, rf_8_5_4, fv_8_5_5, rf_8_5_5, o_8_15, fv_8_15_0, fv_8_15_1, fv_8_15_2, fv_8_15_3, fv_8_15_4, rf_8_15_4, o_8_16, fv_8_16_0, fv_8_16_1, fv_8_16_2, fv_8_16_3, fv_8_16_4, rf_8_16_4, fv_8_16_5, rf_8_16_5, ia_8_2, is_8_2, ia_8_6, is_8_6, ia_8_7, is_8_7, ia_8_8, is_8_8, ia_8_9, is_8_9, ia_8_14, is_8_14, ia_8_17, is_8_17, ia_8_18, is_8_18, ia_8_19, is_8_19, ia_8_20, is_8_20, ia_8_21, is_8_21, ia_8_22, is_8_22, ia_8_23, is_8_23, iz_8_12, iz_8_13, aa_3, ar_3, aa_10, ar_10, aa_11, ar_11, ia_10, is_10, ia_11, is_11, Li_s, Lr_s, Ll_s, On_s, lget, lset, clr_i, clr_r, clr_n, Kc_i, Kc_v, Kc_x, true_and, and_true, List.length_cons, List.length_nil, nlg, isLn, List.all_cons, List.all_nil, Bool.and_true, Bool.not_false, Nat.zero_le, Nat.reduceAdd, Nat.reduceLeDiff, ↓reduceIte, Int.reduceLT, Int.reduceLE, Int.reduceAdd, Int.reduceSub, Int.reduceMul, Int.reduceNeg, Int.reduceToNat, Int.reduceEq, not_true_eq_false, not_false_eq_true, Int.toNat_zero, true_or, or_true]
  rw [(r_ckV1 ha hr (by omega)).iff]
  simp (disch := first | omega | simp) only [u8_0, u8_1, u8_2, u8_3, u8_6, u8_7, u8_8, u8_9, u8_12, u8_15, u8_16, u8_19, u8_20, u8_23, u8_24, u8_27, u8_28, u8_29, u8_32, o_8_0, fv_8_0_0, fv_8_0_1, fv_8_0_2, fv_8_0_3, fv_8_0_4, rf_8_0_4, o_8_1, fv_8_1_0, fv_8_1_1, rf_8_1_1, o_8_4, fv_8_4_0, fv_8_4_1, fv_8_4_2, fv_8_4_3, fv_8_4_4, fv_8_4_5, fv_8_4_6, rf_8_4_6, o_8_5, fv_8_5_0, fv_8_5_1, fv_8_5_2, fv_8_5_3, fv_8_5_4, rf_8_5_4, fv_8_5_5, rf_8_5_5, o_8_15, fv_8_15_0, fv_8_15_1, fv_8_15_2, fv_8_15_3, fv_8_15_4, rf_8_15_4, o_8_16, fv_8_16_0, fv_8_16_1, fv_8_16_2, fv_8_16_3, fv_8_16_4, rf_8_16_4, fv_8_16_5, rf_8_16_5, ia_8_2, is_8_2, ia_8_6, is_8_6, ia_8_7, is_8_7, ia_8_8, is_8_8, ia_8_9, is_8_9, ia_8_14, is_8_14, ia_8_17, is_8_17, ia_8_18, is_8_18, ia_8_19, is_8_19, ia_8_20, is_8_20, ia_8_21, is_8_21, ia_8_22, is_8_22, ia_8_23, is_8_23, iz_8_12, iz_8_13, aa_3, ar_3, aa_10, ar_10, aa_11, ar_11, ia_10, is_10, ia_11, is_11, Li_s, Lr_s, Ll_s, On_s, lget, lset, clr_i, clr_r, clr_n, Kc_i, Kc_v, Kc_x, true_and, and_true, List.length_cons, List.length_nil, nlg, isLn, List.all_cons, List.all_nil, Bool.and_true, Bool.not_false, Nat.zero_le, Nat.reduceAdd, Nat.reduceLeDiff, ↓reduceIte, Int.reduceLT, Int.reduceLE, Int.reduceAdd, Int.reduceSub, Int.reduceMul, Int.reduceNeg, Int.reduceToNat, Int.reduceEq, not_true_eq_false, not_false_eq_true, Int.toNat_zero, true_or, or_true]
theorem p_noteC (h : CI σ f mi n C W L) (hv : 0 ≤ v ∧ v ≤ 3) (ha : b < 0 ∨ (n : Int) ≤ b) (hr : -2147483648 ≤ b ∧ b ≤ 2147483647) : Rn (d + 1) 8 [vr 8 0, vi b, vi v] σ (.inr 1) σ := by
  have e0 := h.2.2.2.2.1
  have hn := h.2.2.1
  refine Rn.of ?_
  rw [e8]
  simp (disch := first | omega | simp) only [u8_0, u8_1, u8_2, u8_3, u8_6, u8_7, u8_8, u8_9, u8_12, u8_15, u8_16, u8_19, u8_20, u8_23, u8_24, u8_27, u8_28, u8_29, u8_32, o_8_0, fv_8_0_0, fv_8_0_1, fv_8_0_2, fv_8_0_3, fv_8_0_4, rf_8_0_4, o_8_1, fv_8_1_0, fv_8_1_1, rf_8_1_1, o_8_4, fv_8_4_0, fv_8_4_1, fv_8_4_2, fv_8_4_3, fv_8_4_4, fv_8_4_5, fv_8_4_6, rf_8_4_6, o_8_5, fv_8_5_0, fv_8_5_1, fv_8_5_2, fv_8_5_3, fv_8_5_4, rf_8_5_4, fv_8_5_5, rf_8_5_5, o_8_15, fv_8_15_0, fv_8_15_1, fv_8_15_2, fv_8_15_3, fv_8_15_4, rf_8_15_4, o_8_16, fv_8_16_0, fv_8_16_1, fv_8_16_2, fv_8_16_3, fv_8_16_4, rf_8_16_4, fv_8_16_5, rf_8_16_5, ia_8_2, is_8_2, ia_8_6, is_8_6, ia_8_7, is_8_7, ia_8_8, is_8_8, ia_8_9, is_8_9, ia_8_14, is_8_14, ia_8_17, is_8_17, ia_8_18, is_8_18, ia_8_19, is_8_19, ia_8_20, is_8_20, ia_8_21, is_8_21, ia_8_22, is_8_22, ia_8_23, is_8_23, iz_8_12, iz_8_13, aa_3, ar_3, aa_10, ar_10, aa_11, ar_11, ia_10, is_10, ia_11, is_11, Li_s, Lr_s, Ll_s, On_s, lget, lset, clr_i, clr_r, clr_n, Kc_i, Kc_v, Kc_x, true_and, and_true, List.length_cons, List.length_nil, nlg, isLn, List.all_cons, List.all_nil, Bool.and_true, Bool.not_false, Nat.zero_le, Nat.reduceAdd, Nat.reduceLeDiff, ↓reduceIte, Int.reduceLT, Int.reduceLE, Int.reduceAdd, Int.reduceSub, Int.reduceMul, Int.reduceNeg, Int.reduceToNat, Int.reduceEq, not_true_eq_false, not_false_eq_true, Int.toNat_zero, true_or, or_true]
  rw [(r_ckV (by omega) (by omega)).iff]
  simp (disch := first | omega | simp) only [u8_0, u8_1, u8_2, u8_3, u8_6, u8_7, u8_8, u8_9, u8_12, u8_15, u8_16, u8_19, u8_20, u8_23, u8_24, u8_27, u8_28, u8_29, u8_32, o_8_0, fv_8_0_0, fv_8_0_1, fv_8_0_2, fv_8_0_3, fv_8_0_4, rf_8_0_4, o_8_1, fv_8_1_0, fv_8_1_1, rf_8_1_1, o_8_4, fv_8_4_0, fv_8_4_1, fv_8_4_2, fv_8_4_3, fv_8_4_4, fv_8_4_5, fv_8_4_6, rf_8_4_6, o_8_5, fv_8_5_0, fv_8_5_1, fv_8_5_2, fv_8_5_3, fv_8_5_4, rf_8_5_4, fv_8_5_5, rf_8_5_5, o_8_15, fv_8_15_0, fv_8_15_1, fv_8_15_2, fv_8_15_3, fv_8_15_4, rf_8_15_4, o_8_16, fv_8_16_0, fv_8_16_1, fv_8_16_2, fv_8_16_3, fv_8_16_4, rf_8_16_4, fv_8_16_5, rf_8_16_5, ia_8_2, is_8_2, ia_8_6, is_8_6, ia_8_7, is_8_7, ia_8_8, is_8_8, ia_8_9, is_8_9, ia_8_14, is_8_14, ia_8_17, is_8_17, ia_8_18, is_8_18, ia_8_19, is_8_19, ia_8_20, is_8_20, ia_8_21, is_8_21, ia_8_22, is_8_22, ia_8_23, is_8_23, iz_8_12, iz_8_13, aa_3, ar_3, aa_10, ar_10, aa_11, ar_11, ia_10, is_10, ia_11, is_11, e0, Li_s, Lr_s, Ll_s, On_s, lget, lset, clr_i, clr_r, clr_n, Kc_i, Kc_v, Kc_x, true_and, and_true, List.length_cons, List.length_nil, nlg, isLn, List.all_cons, List.all_nil, Bool.and_true, Bool.not_false, Nat.zero_le, Nat.reduceAdd, Nat.reduceLeDiff, ↓reduceIte, Int.reduceLT, Int.reduceLE, Int.reduceAdd, Int.reduceSub, Int.reduceMul, Int.reduceNeg, Int.reduceToNat, Int.reduceEq, not_true_eq_false, not_false_eq_true, Int.toNat_zero, true_or, or_true]
  rw [(r_ckC1 ha hr (by omega)).iff]
  simp (disch := first | omega | simp) only [u8_0, u8_1, u8_2, u8_3, u8_6, u8_7, u8_8, u8_9, u8_12, u8_15, u8_16, u8_19, u8_20, u8_23, u8_24, u8_27, u8_28, u8_29, u8_32, o_8_0, fv_8_0_0, fv_8_0_1, fv_8_0_2, fv_8_0_3, fv_8_0_4, rf_8_0_4, o_8_1, fv_8_1_0, fv_8_1_1, rf_8_1_1, o_8_4, fv_8_4_0, fv_8_4_1, fv_8_4_2, fv_8_4_3, fv_8_4_4, fv_8_4_5, fv_8_4_6, rf_8_4_6, o_8_5, fv_8_5_0, fv_8_5_1, fv_8_5_2, fv_8_5_3, fv_8_5_4, rf_8_5_4, fv_8_5_5, rf_8_5_5, o_8_15, fv_8_15_0, fv_8_15_1, fv_8_15_2, fv_8_15_3, fv_8_15_4, rf_8_15_4, o_8_16, fv_8_16_0, fv_8_16_1, fv_8_16_2, fv_8_16_3, fv_8_16_4, rf_8_16_4, fv_8_16_5, rf_8_16_5, ia_8_2, is_8_2, ia_8_6, is_8_6, ia_8_7, is_8_7, ia_8_8, is_8_8, ia_8_9, is_8_9, ia_8_14, is_8_14, ia_8_17, is_8_17, ia_8_18, is_8_18, ia_8_19, is_8_19, ia_8_20, is_8_20, ia_8_21, is_8_21, ia_8_22, is_8_22, ia_8_23, is_8_23, iz_8_12, iz_8_13, aa_3, ar_3, aa_10, ar_10, aa_11, ar_11, ia_10, is_10, ia_11, is_11, Li_s, Lr_s, Ll_s, On_s, lget, lset, clr_i, clr_r, clr_n, Kc_i, Kc_v, Kc_x, true_and, and_true, List.length_cons, List.length_nil, nlg, isLn, List.all_cons, List.all_nil, Bool.and_true, Bool.not_false, Nat.zero_le, Nat.reduceAdd, Nat.reduceLeDiff, ↓reduceIte, Int.reduceLT, Int.reduceLE, Int.reduceAdd, Int.reduceSub, Int.reduceMul, Int.reduceNeg, Int.reduceToNat, Int.reduceEq, not_true_eq_false, not_false_eq_true, Int.toNat_zero, true_or, or_true]
theorem p_noteL (h : CI σ f mi n C none L) (hi : i < n) (hv : 0 ≤ v ∧ v ≤ 3) : Rn (d + 1) 8 [vr 8 0, vi (i : Int), vi v] σ (.inr 2) σ := by
  have e0 := h.2.2.2.2.1
  have hn := h.2.2.1
  refine Rn.of ?_
  rw [e8]
  simp (disch := first | omega | simp) only [u8_0, u8_1, u8_2, u8_3, u8_6, u8_7, u8_8, u8_9, u8_12, u8_15, u8_16, u8_19, u8_20, u8_23, u8_24, u8_27, u8_28, u8_29, u8_32, o_8_0, fv_8_0_0, fv_8_0_1, fv_8_0_2, fv_8_0_3, fv_8_0_4, rf_8_0_4, o_8_1, fv_8_1_0, fv_8_1_1, rf_8_1_1, o_8_4, fv_8_4_0, fv_8_4_1, fv_8_4_2, fv_8_4_3, fv_8_4_4, fv_8_4_5, fv_8_4_6, rf_8_4_6, o_8_5, fv_8_5_0, fv_8_5_1, fv_8_5_2, fv_8_5_3, fv_8_5_4, rf_8_5_4, fv_8_5_5, rf_8_5_5, o_8_15, fv_8_15_0, fv_8_15_1, fv_8_15_2, fv_8_15_3, fv_8_15_4, rf_8_15_4, o_8_16, fv_8_16_0, fv_8_16_1, fv_8_16_2, fv_8_16_3, fv_8_16_4, rf_8_16_4, fv_8_16_5, rf_8_16_5, ia_8_2, is_8_2, ia_8_6, is_8_6, ia_8_7, is_8_7, ia_8_8, is_8_8, ia_8_9, is_8_9, ia_8_14, is_8_14, ia_8_17, is_8_17, ia_8_18, is_8_18, ia_8_19, is_8_19, ia_8_20, is_8_20, ia_8_21, is_8_21, ia_8_22, is_8_22, ia_8_23, is_8_23, iz_8_12, iz_8_13, aa_3, ar_3, aa_10, ar_10, aa_11, ar_11, ia_10, is_10, ia_11, is_11, Li_s, Lr_s, Ll_s, On_s, lget, lset, clr_i, clr_r, clr_n, Kc_i, Kc_v, Kc_x, true_and, and_true, List.length_cons, List.length_nil, nlg, isLn, List.all_cons, List.all_nil, Bool.and_true, Bool.not_false, Nat.zero_le, Nat.reduceAdd, Nat.reduceLeDiff, ↓reduceIte, Int.reduceLT, Int.reduceLE, Int.reduceAdd, Int.reduceSub, Int.reduceMul, Int.reduceNeg, Int.reduceToNat, Int.reduceEq, not_true_eq_false, not_false_eq_true, Int.toNat_zero, true_or, or_true]
  rw [(r_ckV (by omega) (by omega)).iff]
  simp (disch := first | omega | simp) only [u8_0, u8_1, u8_2, u8_3, u8_6, u8_7, u8_8, u8_9, u8_12, u8_15, u8_16, u8_19, u8_20, u8_23, u8_24, u8_27, u8_28, u8_29, u8_32, o_8_0, fv_8_0_0, fv_8_0_1, fv_8_0_2, fv_8_0_3, fv_8_0_4, rf_8_0_4, o_8_1, fv_8_1_0, fv_8_1_1, rf_8_1_1, o_8_4, fv_8_4_0, fv_8_4_1, fv_8_4_2, fv_8_4_3, fv_8_4_4, fv_8_4_5, fv_8_4_6, rf_8_4_6, o_8_5, fv_8_5_0, fv_8_5_1, fv_8_5_2, fv_8_5_3, fv_8_5_4, rf_8_5_4, fv_8_5_5, rf_8_5_5, o_8_15, fv_8_15_0, fv_8_15_1, fv_8_15_2, fv_8_15_3, fv_8_15_4, rf_8_15_4, o_8_16, fv_8_16_0, fv_8_16_1, fv_8_16_2, fv_8_16_3, fv_8_16_4, rf_8_16_4, fv_8_16_5, rf_8_16_5, ia_8_2, is_8_2, ia_8_6, is_8_6, ia_8_7, is_8_7, ia_8_8, is_8_8, ia_8_9, is_8_9, ia_8_14, is_8_14, ia_8_17, is_8_17, ia_8_18, is_8_18, ia_8_19, is_8_19, ia_8_20, is_8_20, ia_8_21, is_8_21, ia_8_22, is_8_22, ia_8_23, is_8_23, iz_8_12, iz_8_13, aa_3, ar_3, aa_10, ar_10, aa_11, ar_11, ia_10, is_10, ia_11, is_11, e0, Li_s, Lr_s, Ll_s, On_s, lget, lset, clr_i, clr_r, clr_n, Kc_i, Kc_v, Kc_x, true_and, and_true, List.length_cons, List.length_nil, nlg, isLn, List.all_cons, List.all_nil, Bool.and_true, Bool.not_false, Nat.zero_le, Nat.reduceAdd, Nat.reduceLeDiff, ↓reduceIte, Int.reduceLT, Int.reduceLE, Int.reduceAdd, Int.reduceSub, Int.reduceMul, Int.reduceNeg, Int.reduceToNat, Int.reduceEq, not_true_eq_false, not_false_eq_true, Int.toNat_zero, true_or, or_true]
  rw [(r_ckC (by omega) (by omega)).iff]
  simp (disch := first | omega | simp) only [u8_0, u8_1, u8_2, u8_3, u8_6, u8_7, u8_8, u8_9, u8_12, u8_15, u8_16, u8_19, u8_20, u8_23, u8_24, u8_27, u8_28, u8_29, u8_32, o_8_0, fv_8_0_0, fv_8_0_1, fv_8_0_2, fv_8_0_3, fv_8_0_4, rf_8_0_4, o_8_1, fv_8_1_0, fv_8_1_1, rf_8_1_1, o_8_4, fv_8_4_0, fv_8_4_1, fv_8_4_2, fv_8_4_3, fv_8_4_4, fv_8_4_5, fv_8_4_6, rf_8_4_6, o_8_5, fv_8_5_0, fv_8_5_1, fv_8_5_2, fv_8_5_3, fv_8_5_4, rf_8_5_4, fv_8_5_5, rf_8_5_5, o_8_15, fv_8_15_0, fv_8_15_1, fv_8_15_2, fv_8_15_3, fv_8_15_4, rf_8_15_4, o_8_16, fv_8_16_0, fv_8_16_1, fv_8_16_2, fv_8_16_3, fv_8_16_4, rf_8_16_4, fv_8_16_5, rf_8_16_5, ia_8_2, is_8_2, ia_8_6, is_8_6, ia_8_7, is_8_7, ia_8_8, is_8_8, ia_8_9, is_8_9, ia_8_14, is_8_14, ia_8_17, is_8_17, ia_8_18, is_8_18, ia_8_19, is_8_19, ia_8_20, is_8_20, ia_8_21, is_8_21, ia_8_22, is_8_22, ia_8_23, is_8_23, iz_8_12, iz_8_13, aa_3, ar_3, aa_10, ar_10, aa_11, ar_11, ia_10, is_10, ia_11, is_11, Li_s, Lr_s, Ll_s, On_s, lget, lset, clr_i, clr_r, clr_n, Kc_i, Kc_v, Kc_x, true_and, and_true, List.length_cons, List.length_nil, nlg, isLn, List.all_cons, List.all_nil, Bool.and_true, Bool.not_false, Nat.zero_le, Nat.reduceAdd, Nat.reduceLeDiff, ↓reduceIte, Int.reduceLT, Int.reduceLE, Int.reduceAdd, Int.reduceSub, Int.reduceMul, Int.reduceNeg, Int.reduceToNat, Int.reduceEq, not_true_eq_false, not_false_eq_true, Int.toNat_zero, true_or, or_true]
  rw [(r_ckL1 h).iff]
  simp (disch := first | omega | simp) only [u8_0, u8_1, u8_2, u8_3, u8_6, u8_7, u8_8, u8_9, u8_12, u8_15, u8_16, u8_19, u8_20, u8_23, u8_24, u8_27, u8_28, u8_29, u8_32, o_8_0, fv_8_0_0, fv_8_0_1, fv_8_0_2, fv_8_0_3, fv_8_0_4, rf_8_0_4, o_8_1, fv_8_1_0, fv_8_1_1, rf_8_1_1, o_8_4, fv_8_4_0, fv_8_4_1, fv_8_4_2, fv_8_4_3, fv_8_4_4, fv_8_4_5, fv_8_4_6, rf_8_4_6, o_8_5, fv_8_5_0, fv_8_5_1, fv_8_5_2, fv_8_5_3, fv_8_5_4, rf_8_5_4, fv_8_5_5, rf_8_5_5, o_8_15, fv_8_15_0, fv_8_15_1, fv_8_15_2, fv_8_15_3, fv_8_15_4, rf_8_15_4, o_8_16, fv_8_16_0, fv_8_16_1, fv_8_16_2, fv_8_16_3, fv_8_16_4, rf_8_16_4, fv_8_16_5, rf_8_16_5, ia_8_2, is_8_2, ia_8_6, is_8_6, ia_8_7, is_8_7, ia_8_8, is_8_8, ia_8_9, is_8_9, ia_8_14, is_8_14, ia_8_17, is_8_17, ia_8_18, is_8_18, ia_8_19, is_8_19, ia_8_20, is_8_20, ia_8_21, is_8_21, ia_8_22, is_8_22, ia_8_23, is_8_23, iz_8_12, iz_8_13, aa_3, ar_3, aa_10, ar_10, aa_11, ar_11, ia_10, is_10, ia_11, is_11, Li_s, Lr_s, Ll_s, On_s, lget, lset, clr_i, clr_r, clr_n, Kc_i, Kc_v, Kc_x, true_and, and_true, List.length_cons, List.length_nil, nlg, isLn, List.all_cons, List.all_nil, Bool.and_true, Bool.not_false, Nat.zero_le, Nat.reduceAdd, Nat.reduceLeDiff, ↓reduceIte, Int.reduceLT, Int.reduceLE, Int.reduceAdd, Int.reduceSub, Int.reduceMul, Int.reduceNeg, Int.reduceToNat, Int.reduceEq, not_true_eq_false, not_false_eq_true, Int.toNat_zero, true_or, or_true]
/-- what chord i adds to the cost -/
def shr (f mi : Int) (C : Nat → Cho) (w : Nat → Int) (i : Nat) : Int := if i = 0 then fP f mi C i (w i) else fP f mi C i (w i) + dP f C (i - 1) (w (i - 1)) (w i)
theorem CI.frM (h : CI σ f mi n C W L) (hF : Fr frM σ σ') : CI σ' f mi n C W L := by
  obtain ⟨h1, h2, h3, h4, h5, h6, h7, h8⟩ := h
  have e : ∀ g j k, ¬ (g = 8 ∧ 5 ≤ j ∧ j ≤ 9) → σ' g j k = σ g j k := fun g j k hn => hF g j k hn
  refine ⟨h1, h2, h3, h4.fr (fun k => e _ _ _ (by omega)) (e _ _ _ (by omega)), (e _ _ _ (by omega)).trans h5, fun i hi => (h6 i hi).fr (fun j k => e _ _ _ (by omega)), ⟨h7.1.fr (e _ _ _ (by omega)) (fun j k j1 j2 => e _ _ _ (by omega)), h7.2⟩, ?_⟩
  cases W with
  | none => exact (e _ _ _ (by omega)).trans h8
  | some w =>
    refine ⟨(e _ _ _ (by omega)).trans h8.1, fun i hi => ?_⟩
    obtain ⟨w1, w2, w3, w4⟩ := h8.2 i hi
    exact ⟨(e _ _ _ (by omega)).trans w1, (e _ _ _ (by omega)).trans w2, w3, w4⟩
theorem p_cost {w : Nat → Int} (hS : Sml) (h : CI σ f mi n C (some w) L) (hi : i < n) (q : ∀ σ', CI σ' f mi n C (some w) L → Q (.inl (some (vi (shr f mi C w i)))) σ') : Wm (d + 4) 9 [vr 8 0, vi (i : Int)] σ Q := by
  have e0 := h.2.2.2.2.1
  have hn := h.2.2.1
  have hW := h.2.2.2.2.2.2.2.2
  have hC := h.2.2.2.2.2.1
  have ag := agr hS hn.2 hC (fun i hi => (hW i hi).2.1)
  rw [e9]
  simp (disch := first | omega | simp) only [u9_0, u9_1, u9_2, u9_3, u9_6, u9_9, u9_10, u9_13, u9_14, u9_17, u9_18, u9_21, u9_22, u9_25, o_8_0, fv_8_0_0, fv_8_0_1, fv_8_0_2, fv_8_0_3, fv_8_0_4, rf_8_0_4, o_8_1, fv_8_1_0, fv_8_1_1, rf_8_1_1, o_8_4, fv_8_4_0, fv_8_4_1, fv_8_4_2, fv_8_4_3, fv_8_4_4, fv_8_4_5, fv_8_4_6, rf_8_4_6, o_8_5, fv_8_5_0, fv_8_5_1, fv_8_5_2, fv_8_5_3, fv_8_5_4, rf_8_5_4, fv_8_5_5, rf_8_5_5, o_8_15, fv_8_15_0, fv_8_15_1, fv_8_15_2, fv_8_15_3, fv_8_15_4, rf_8_15_4, o_8_16, fv_8_16_0, fv_8_16_1, fv_8_16_2, fv_8_16_3, fv_8_16_4, rf_8_16_4, fv_8_16_5, rf_8_16_5, ia_8_2, is_8_2, ia_8_6, is_8_6, ia_8_7, is_8_7, ia_8_8, is_8_8, ia_8_9, is_8_9, ia_8_14, is_8_14, ia_8_17, is_8_17, ia_8_18, is_8_18, ia_8_19, is_8_19, ia_8_20, is_8_20, ia_8_21, is_8_21, ia_8_22, is_8_22, ia_8_23, is_8_23, iz_8_12, iz_8_13, aa_3, ar_3, aa_10, ar_10, aa_11, ar_11, ia_10, is_10, ia_11, is_11, e0, Li_s, Lr_s, Ll_s, On_s, lget, lset, clr_i, clr_r, clr_n, Kc_i, Kc_v, Kc_x, true_and, and_true, List.length_cons, List.length_nil, nlg, isLn, List.all_cons, List.all_nil, Bool.and_true, Bool.not_false, Nat.zero_le, Nat.reduceAdd, Nat.reduceLeDiff, ↓reduceIte, Int.reduceLT, Int.reduceLE, Int.reduceAdd, Int.reduceSub, Int.reduceMul, Int.reduceNeg, Int.reduceToNat, Int.reduceEq, not_true_eq_false, not_false_eq_true, Int.toNat_zero, true_or, or_true]
  rw [(r_ckC (by omega) (by omega)).iff]
  simp (disch := first | omega | simp) only [u9_0, u9_1, u9_2, u9_3, u9_6, u9_9, u9_10, u9_13, u9_14, u9_17, u9_18, u9_21, u9_22, u9_25, o_8_0, fv_8_0_0, fv_8_0_1, fv_8_0_2, fv_8_0_3, fv_8_0_4, rf_8_0_4, o_8_1, fv_8_1_0, fv_8_1_1, rf_8_1_1, o_8_4, fv_8_4_0, fv_8_4_1, fv_8_4_2, fv_8_4_3, fv_8_4_4, fv_8_4_5, fv_8_4_6, rf_8_4_6, o_8_5, fv_8_5_0, fv_8_5_1, fv_8_5_2, fv_8_5_3, fv_8_5_4, rf_8_5_4, fv_8_5_5, rf_8_5_5, o_8_15, fv_8_15_0, fv_8_15_1, fv_8_15_2, fv_8_15_3, fv_8_15_4, rf_8_15_4, o_8_16, fv_8_16_0, fv_8_16_1, fv_8_16_2, fv_8_16_3, fv_8_16_4, rf_8_16_4, fv_8_16_5, rf_8_16_5, ia_8_2, is_8_2, ia_8_6, is_8_6, ia_8_7, is_8_7, ia_8_8, is_8_8, ia_8_9, is_8_9, ia_8_14, is_8_14, ia_8_17, is_8_17, ia_8_18, is_8_18, ia_8_19, is_8_19, ia_8_20, is_8_20, ia_8_21, is_8_21, ia_8_22, is_8_22, ia_8_23, is_8_23, iz_8_12, iz_8_13, aa_3, ar_3, aa_10, ar_10, aa_11, ar_11, ia_10, is_10, ia_11, is_11, Li_s, Lr_s, Ll_s, On_s, lget, lset, clr_i, clr_r, clr_n, Kc_i, Kc_v, Kc_x, true_and, and_true, List.length_cons, List.length_nil, nlg, isLn, List.all_cons, List.all_nil, Bool.and_true, Bool.not_false, Nat.zero_le, Nat.reduceAdd, Nat.reduceLeDiff, ↓reduceIte, Int.reduceLT, Int.reduceLE, Int.reduceAdd, Int.reduceSub, Int.reduceMul, Int.reduceNeg, Int.reduceToNat, Int.reduceEq, not_true_eq_false, not_false_eq_true, Int.toNat_zero, true_or, or_true]
  rw [(r_ckL h).iff]
  simp (disch := first | omega | simp) only [u9_0, u9_1, u9_2, u9_3, u9_6, u9_9, u9_10, u9_13, u9_14, u9_17, u9_18, u9_21, u9_22, u9_25, o_8_0, fv_8_0_0, fv_8_0_1, fv_8_0_2, fv_8_0_3, fv_8_0_4, rf_8_0_4, o_8_1, fv_8_1_0, fv_8_1_1, rf_8_1_1, o_8_4, fv_8_4_0, fv_8_4_1, fv_8_4_2, fv_8_4_3, fv_8_4_4, fv_8_4_5, fv_8_4_6, rf_8_4_6, o_8_5, fv_8_5_0, fv_8_5_1, fv_8_5_2, fv_8_5_3, fv_8_5_4, rf_8_5_4, fv_8_5_5, rf_8_5_5, o_8_15, fv_8_15_0, fv_8_15_1, fv_8_15_2, fv_8_15_3, fv_8_15_4, rf_8_15_4, o_8_16, fv_8_16_0, fv_8_16_1, fv_8_16_2, fv_8_16_3, fv_8_16_4, rf_8_16_4, fv_8_16_5, rf_8_16_5, ia_8_2, is_8_2, ia_8_6, is_8_6, ia_8_7, is_8_7, ia_8_8, is_8_8, ia_8_9, is_8_9, ia_8_14, is_8_14, ia_8_17, is_8_17, ia_8_18, is_8_18, ia_8_19, is_8_19, ia_8_20, is_8_20, ia_8_21, is_8_21, ia_8_22, is_8_22, ia_8_23, is_8_23, iz_8_12, iz_8_13, aa_3, ar_3, aa_10, ar_10, aa_11, ar_11, ia_10, is_10, ia_11, is_11, Li_s, Lr_s, Ll_s, On_s, lget, lset, clr_i, clr_r, clr_n, Kc_i, Kc_v, Kc_x, true_and, and_true, List.length_cons, List.length_nil, nlg, isLn, List.all_cons, List.all_nil, Bool.and_true, Bool.not_false, Nat.zero_le, Nat.reduceAdd, Nat.reduceLeDiff, ↓reduceIte, Int.reduceLT, Int.reduceLE, Int.reduceAdd, Int.reduceSub, Int.reduceMul, Int.reduceNeg, Int.reduceToNat, Int.reduceEq, not_true_eq_false, not_false_eq_true, Int.toNat_zero, true_or, or_true]
  refine w_share (T := fun i => chT f (C i)) (N := nP f C) (by omega) (fun j hj => ((hC j (by omega)).chG hS (hW j (by omega)).2.1).1) (fun j hj => ?_) (fun σ2 hF => ?_)
  · have := hW j (by omega)
    rw [this.1]
    exact this.2.2
  · simp (disch := first | omega | simp) only [u9_0, u9_1, u9_2, u9_3, u9_6, u9_9, u9_10, u9_13, u9_14, u9_17, u9_18, u9_21, u9_22, u9_25, o_8_0, fv_8_0_0, fv_8_0_1, fv_8_0_2, fv_8_0_3, fv_8_0_4, rf_8_0_4, o_8_1, fv_8_1_0, fv_8_1_1, rf_8_1_1, o_8_4, fv_8_4_0, fv_8_4_1, fv_8_4_2, fv_8_4_3, fv_8_4_4, fv_8_4_5, fv_8_4_6, rf_8_4_6, o_8_5, fv_8_5_0, fv_8_5_1, fv_8_5_2, fv_8_5_3, fv_8_5_4, rf_8_5_4, fv_8_5_5, rf_8_5_5, o_8_15, fv_8_15_0, fv_8_15_1, fv_8_15_2, fv_8_15_3, fv_8_15_4, rf_8_15_4, o_8_16, fv_8_16_0, fv_8_16_1, fv_8_16_2, fv_8_16_3, fv_8_16_4, rf_8_16_4, fv_8_16_5, rf_8_16_5, ia_8_2, is_8_2, ia_8_6, is_8_6, ia_8_7, is_8_7, ia_8_8, is_8_8, ia_8_9, is_8_9, ia_8_14, is_8_14, ia_8_17, is_8_17, ia_8_18, is_8_18, ia_8_19, is_8_19, ia_8_20, is_8_20, ia_8_21, is_8_21, ia_8_22, is_8_22, ia_8_23, is_8_23, iz_8_12, iz_8_13, aa_3, ar_3, aa_10, ar_10, aa_11, ar_11, ia_10, is_10, ia_11, is_11, Li_s, Lr_s, Ll_s, On_s, lget, lset, clr_i, clr_r, clr_n, Kc_i, Kc_v, Kc_x, true_and, and_true, List.length_cons, List.length_nil, nlg, isLn, List.all_cons, List.all_nil, Bool.and_true, Bool.not_false, Nat.zero_le, Nat.reduceAdd, Nat.reduceLeDiff, ↓reduceIte, Int.reduceLT, Int.reduceLE, Int.reduceAdd, Int.reduceSub, Int.reduceMul, Int.reduceNeg, Int.reduceToNat, Int.reduceEq, not_true_eq_false, not_false_eq_true, Int.toNat_zero, true_or, or_true]
    have er : (if i = 0 then feA σ i (σ 8 14 i) else feA σ i (σ 8 14 i) + dsA σ (i - 1) (σ 8 14 (i - 1)) (σ 8 14 i)) = shr f mi C w i := by
      have wi := hW i hi
      unfold shr
      rw [wi.1, ag.1 i hi (w i) wi.2.2.1 wi.2.2.2]
      by_cases h0 : i = 0
      · rw [if_pos h0, if_pos h0]
      · rw [if_neg h0, if_neg h0]
        have wj := hW (i - 1) (by omega)
        have ea := (ag.2 (i - 1) (by omega) (w (i - 1)) (w i) wj.2.2.1 wj.2.2.2 wi.2.2.1 (by rw [show i - 1 + 1 = i by omega]; exact wi.2.2.2)).1
        rw [wj.1, ea]
    rw [er]
    exact q σ2 (h.frM hF)
theorem p_costC (h : CI σ f mi n C W L) (ha : b < 0 ∨ (n : Int) ≤ b) (hr : -2147483648 ≤ b ∧ b ≤ 2147483647) : Rn (d + 1) 9 [vr 8 0, vi b] σ (.inr 1) σ := by
  have e0 := h.2.2.2.2.1
  have hn := h.2.2.1
  refine Rn.of ?_
  rw [e9]
  simp (disch := first | omega | simp) only [u9_0, u9_1, u9_2, u9_3, u9_6, u9_9, u9_10, u9_13, u9_14, u9_17, u9_18, u9_21, u9_22, u9_25, o_8_0, fv_8_0_0, fv_8_0_1, fv_8_0_2, fv_8_0_3, fv_8_0_4, rf_8_0_4, o_8_1, fv_8_1_0, fv_8_1_1, rf_8_1_1, o_8_4, fv_8_4_0, fv_8_4_1, fv_8_4_2, fv_8_4_3, fv_8_4_4, fv_8_4_5, fv_8_4_6, rf_8_4_6, o_8_5, fv_8_5_0, fv_8_5_1, fv_8_5_2, fv_8_5_3, fv_8_5_4, rf_8_5_4, fv_8_5_5, rf_8_5_5, o_8_15, fv_8_15_0, fv_8_15_1, fv_8_15_2, fv_8_15_3, fv_8_15_4, rf_8_15_4, o_8_16, fv_8_16_0, fv_8_16_1, fv_8_16_2, fv_8_16_3, fv_8_16_4, rf_8_16_4, fv_8_16_5, rf_8_16_5, ia_8_2, is_8_2, ia_8_6, is_8_6, ia_8_7, is_8_7, ia_8_8, is_8_8, ia_8_9, is_8_9, ia_8_14, is_8_14, ia_8_17, is_8_17, ia_8_18, is_8_18, ia_8_19, is_8_19, ia_8_20, is_8_20, ia_8_21, is_8_21, ia_8_22, is_8_22, ia_8_23, is_8_23, iz_8_12, iz_8_13, aa_3, ar_3, aa_10, ar_10, aa_11, ar_11, ia_10, is_10, ia_11, is_11, e0, Li_s, Lr_s, Ll_s, On_s, lget, lset, clr_i, clr_r, clr_n, Kc_i, Kc_v, Kc_x, true_and, and_true, List.length_cons, List.length_nil, nlg, isLn, List.all_cons, List.all_nil, Bool.and_true, Bool.not_false, Nat.zero_le, Nat.reduceAdd, Nat.reduceLeDiff, ↓reduceIte, Int.reduceLT, Int.reduceLE, Int.reduceAdd, Int.reduceSub, Int.reduceMul, Int.reduceNeg, Int.reduceToNat, Int.reduceEq, not_true_eq_false, not_false_eq_true, Int.toNat_zero, true_or, or_true]
  rw [(r_ckC1 ha hr (by omega)).iff]
  simp (disch := first | omega | simp) only [u9_0, u9_1, u9_2, u9_3, u9_6, u9_9, u9_10, u9_13, u9_14, u9_17, u9_18, u9_21, u9_22, u9_25, o_8_0, fv_8_0_0, fv_8_0_1, fv_8_0_2, fv_8_0_3, fv_8_0_4, rf_8_0_4, o_8_1, fv_8_1_0, fv_8_1_1, rf_8_1_1, o_8_4, fv_8_4_0, fv_8_4_1, fv_8_4_2, fv_8_4_3, fv_8_4_4, fv_8_4_5, fv_8_4_6, rf_8_4_6, o_8_5, fv_8_5_0, fv_8_5_1, fv_8_5_2, fv_8_5_3, fv_8_5_4, rf_8_5_4, fv_8_5_5, rf_8_5_5, o_8_15, fv_8_15_0, fv_8_15_1, fv_8_15_2, fv_8_15_3, fv_8_15_4, rf_8_15_4, o_8_16, fv_8_16_0, fv_8_16_1, fv_8_16_2, fv_8_16_3, fv_8_16_4, rf_8_16_4, fv_8_16_5, rf_8_16_5, ia_8_2, is_8_2, ia_8_6, is_8_6, ia_8_7, is_8_7, ia_8_8, is_8_8, ia_8_9, is_8_9, ia_8_14, is_8_14, ia_8_17, is_8_17, ia_8_18, is_8_18, ia_8_19, is_8_19, ia_8_20, is_8_20, ia_8_21, is_8_21, ia_8_22, is_8_22, ia_8_23, is_8_23, iz_8_12, iz_8_13, aa_3, ar_3, aa_10, ar_10, aa_11, ar_11, ia_10, is_10, ia_11, is_11, Li_s, Lr_s, Ll_s, On_s, lget, lset, clr_i, clr_r, clr_n, Kc_i, Kc_v, Kc_x, true_and, and_true, List.length_cons, List.length_nil, nlg, isLn, List.all_cons, List.all_nil, Bool.and_true, Bool.not_false, Nat.zero_le, Nat.reduceAdd, Nat.reduceLeDiff, ↓reduceIte, Int.reduceLT, Int.reduceLE, Int.reduceAdd, Int.reduceSub, Int.reduceMul, Int.reduceNeg, Int.reduceToNat, Int.reduceEq, not_true_eq_false, not_false_eq_true, Int.toNat_zero, true_or, or_true]
theorem p_costL (h : CI σ f mi n C none L) (hi : i < n) : Rn (d + 1) 9 [vr 8 0, vi (i : Int)] σ (.inr 2) σ := by
  have e0 := h.2.2.2.2.1
  have hn := h.2.2.1
  refine Rn.of ?_
  rw [e9]
  simp (disch := first | omega | simp) only [u9_0, u9_1, u9_2, u9_3, u9_6, u9_9, u9_10, u9_13, u9_14, u9_17, u9_18, u9_21, u9_22, u9_25, o_8_0, fv_8_0_0, fv_8_0_1, fv_8_0_2, fv_8_0_3, fv_8_0_4, rf_8_0_4, o_8_1, fv_8_1_0, fv_8_1_1, rf_8_1_1, o_8_4, fv_8_4_0, fv_8_4_1, fv_8_4_2, fv_8_4_3, fv_8_4_4, fv_8_4_5, fv_8_4_6, rf_8_4_6, o_8_5, fv_8_5_0, fv_8_5_1, fv_8_5_2, fv_8_5_3, fv_8_5_4, rf_8_5_4, fv_8_5_5, rf_8_5_5, o_8_15, fv_8_15_0, fv_8_15_1, fv_8_15_2, fv_8_15_3, fv_8_15_4, rf_8_15_4, o_8_16, fv_8_16_0, fv_8_16_1, fv_8_16_2, fv_8_16_3, fv_8_16_4, rf_8_16_4, fv_8_16_5, rf_8_16_5, ia_8_2, is_8_2, ia_8_6, is_8_6, ia_8_7, is_8_7, ia_8_8, is_8_8, ia_8_9, is_8_9, ia_8_14, is_8_14, ia_8_17, is_8_17, ia_8_18, is_8_18, ia_8_19, is_8_19, ia_8_20, is_8_20, ia_8_21, is_8_21, ia_8_22, is_8_22, ia_8_23, is_8_23, iz_8_12, iz_8_13, aa_3, ar_3, aa_10, ar_10, aa_11, ar_11, ia_10, is_10, ia_11, is_11, e0, Li_s, Lr_s, Ll_s, On_s, lget, lset, clr_i, clr_r, clr_n, Kc_i, Kc_v, Kc_x, true_and, and_true, List.length_cons, List.length_nil, nlg, isLn, List.all_cons, List.all_nil, Bool.and_true, Bool.not_false, Nat.zero_le, Nat.reduceAdd, Nat.reduceLeDiff, ↓reduceIte, Int.reduceLT, Int.reduceLE, Int.reduceAdd, Int.reduceSub, Int.reduceMul, Int.reduceNeg, Int.reduceToNat, Int.reduceEq, not_true_eq_false, not_false_eq_true, Int.toNat_zero, true_or, or_true]
  rw [(r_ckC (by omega) (by omega)).iff]
  simp (disch := first | omega | simp) only [u9_0, u9_1, u9_2, u9_3, u9_6, u9_9, u9_10, u9_13, u9_14, u9_17, u9_18, u9_21, u9_22, u9_25, o_8_0, fv_8_0_0, fv_8_0_1, fv_8_0_2, fv_8_0_3, fv_8_0_4, rf_8_0_4, o_8_1, fv_8_1_0, fv_8_1_1, rf_8_1_1, o_8_4, fv_8_4_0, fv_8_4_1, fv_8_4_2, fv_8_4_3, fv_8_4_4, fv_8_4_5, fv_8_4_6, rf_8_4_6, o_8_5, fv_8_5_0, fv_8_5_1, fv_8_5_2, fv_8_5_3, fv_8_5_4, rf_8_5_4, fv_8_5_5, rf_8_5_5, o_8_15, fv_8_15_0, fv_8_15_1, fv_8_15_2, fv_8_15_3, fv_8_15_4, rf_8_15_4, o_8_16, fv_8_16_0, fv_8_16_1, fv_8_16_2, fv_8_16_3, fv_8_16_4, rf_8_16_4, fv_8_16_5, rf_8_16_5, ia_8_2, is_8_2, ia_8_6, is_8_6, ia_8_7, is_8_7, ia_8_8, is_8_8, ia_8_9, is_8_9, ia_8_14, is_8_14, ia_8_17, is_8_17, ia_8_18, is_8_18, ia_8_19, is_8_19, ia_8_20, is_8_20, ia_8_21, is_8_21, ia_8_22, is_8_22, ia_8_23, is_8_23, iz_8_12, iz_8_13, aa_3, ar_3, aa_10, ar_10, aa_11, ar_11, ia_10, is_10, ia_11, is_11, Li_s, Lr_s, Ll_s, On_s, lget, lset, clr_i, clr_r, clr_n, Kc_i, Kc_v, Kc_x, true_and, and_true, List.length_cons, List.length_nil, nlg, isLn, List.all_cons, List.all_nil, Bool.and_true, Bool.not_false, Nat.zero_le, Nat.reduceAdd, Nat.reduceLeDiff, ↓reduceIte, Int.reduceLT, Int.reduceLE, Int.reduceAdd, Int.reduceSub, Int.reduceMul, Int.reduceNeg, Int.reduceToNat, Int.reduceEq, not_true_eq_false, not_false_eq_true, Int.toNat_zero, true_or, or_true]
  rw [(r_ckL1 h).iff]
  simp (disch := first | omega | simp) only [u9_0, u9_1, u9_2, u9_3, u9_6, u9_9, u9_10, u9_13, u9_14, u9_17, u9_18, u9_21, u9_22, u9_25, o_8_0, fv_8_0_0, fv_8_0_1, fv_8_0_2, fv_8_0_3, fv_8_0_4, rf_8_0_4, o_8_1, fv_8_1_0, fv_8_1_1, rf_8_1_1, o_8_4, fv_8_4_0, fv_8_4_1, fv_8_4_2, fv_8_4_3, fv_8_4_4, fv_8_4_5, fv_8_4_6, rf_8_4_6, o_8_5, fv_8_5_0, fv_8_5_1, fv_8_5_2, fv_8_5_3, fv_8_5_4, rf_8_5_4, fv_8_5_5, rf_8_5_5, o_8_15, fv_8_15_0, fv_8_15_1, fv_8_15_2, fv_8_15_3, fv_8_15_4, rf_8_15_4, o_8_16, fv_8_16_0, fv_8_16_1, fv_8_16_2, fv_8_16_3, fv_8_16_4, rf_8_16_4, fv_8_16_5, rf_8_16_5, ia_8_2, is_8_2, ia_8_6, is_8_6, ia_8_7, is_8_7, ia_8_8, is_8_8, ia_8_9, is_8_9, ia_8_14, is_8_14, ia_8_17, is_8_17, ia_8_18, is_8_18, ia_8_19, is_8_19, ia_8_20, is_8_20, ia_8_21, is_8_21, ia_8_22, is_8_22, ia_8_23, is_8_23, iz_8_12, iz_8_13, aa_3, ar_3, aa_10, ar_10, aa_11, ar_11, ia_10, is_10, ia_11, is_11, Li_s, Lr_s, Ll_s, On_s, lget, lset, clr_i, clr_r, clr_n, Kc_i, Kc_v, Kc_x, true_and, and_true, List.length_cons, List.length_nil, nlg, isLn, List.all_cons, List.all_nil, Bool.and_true, Bool.not_false, Nat.zero_le, Nat.reduceAdd, Nat.reduceLeDiff, ↓reduceIte, Int.reduceLT, Int.reduceLE, Int.reduceAdd, Int.reduceSub, Int.reduceMul, Int.reduceNeg, Int.reduceToNat, Int.reduceEq, not_true_eq_false, not_false_eq_true, Int.toNat_zero, true_or, or_true]
end CE
