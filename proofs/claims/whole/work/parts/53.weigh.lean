/-! THE SEARCH FROM THE END: what it costs from a placement to the end; pure, and the class's weigh -/
/-- the least sum over the next chord's placements from q on, and the first that gives it -/
def lsS (F : Int) (cn : Int → Int) (dq kq : Int → Int) : Nat → Int → Int × Int → Int × Int
  | 0, _, a => a
  | r + 1, q, a => lsS F cn dq kq r (q + 1) (if cn q = -1 then a else if (a.1 = -1 ∨ F + dq q + cn q < a.1) ∧ ¬ kq q = 0 then (F + dq q + cn q, q) else a)
/-- k chords behind chord i: the cost from its placement p on, or -1 -/
def cst (N : Nat → Nat) (fe : Nat → Int → Int) (ds kp : Nat → Int → Int → Int) : Nat → Nat → Int → Int
  | 0, i, p => fe i p
  | k + 1, i, p => (lsS (fe i p) (cst N fe ds kp k (i + 1)) (ds i p) (kp i p) (N (i + 1)) 0 (-1, 0)).1
def fol (N : Nat → Nat) (fe : Nat → Int → Int) (ds kp : Nat → Int → Int → Int) (k i : Nat) (p : Int) : Int := (lsS (fe i p) (cst N fe ds kp k (i + 1)) (ds i p) (kp i p) (N (i + 1)) 0 (-1, 0)).2
theorem lsS_s (F : Int) (cn dq kq : Int → Int) (r : Nat) (q : Int) (a : Int × Int) : lsS F cn dq kq (r + 1) q a = lsS F cn dq kq r (q + 1) (if cn q = -1 then a else if (a.1 = -1 ∨ F + dq q + cn q < a.1) ∧ ¬ kq q = 0 then (F + dq q + cn q, q) else a) := rfl
theorem lsS_in {F B : Int} {cn dq kq : Int → Int} : ∀ (r : Nat) (q : Int) (a : Int × Int), (∀ z, q ≤ z → z < q + r → -1 ≤ cn z ∧ cn z ≤ B) → (∀ z, q ≤ z → z < q + r → 0 ≤ dq z ∧ dq z ≤ 381) → 0 ≤ F → F ≤ 63 → (-1 ≤ a.1 ∧ a.1 ≤ B + 444) → -1 ≤ (lsS F cn dq kq r q a).1 ∧ (lsS F cn dq kq r q a).1 ≤ B + 444
  | 0, _, _, _, _, _, _, h => h
  | r + 1, q, a, h1, h2, h3, h4, h5 => by
    have a1 := h1 q (by omega) (by omega)
    have a2 := h2 q (by omega) (by omega)
    rw [lsS_s]
    refine lsS_in r (q + 1) _ (fun z z1 z2 => h1 z (by omega) (by omega)) (fun z z1 z2 => h2 z (by omega) (by omega)) h3 h4 ?_
    split
    · exact h5
    · split
      · dsimp only
        omega
      · exact h5
/-- what a second start differs in: the second number alone, and only while nothing is found -/
theorem lsS_f {F : Int} {cn dq kq : Int → Int} : ∀ (r : Nat) (q l f f' : Int), (lsS F cn dq kq r q (l, f)).1 = (lsS F cn dq kq r q (l, f')).1 ∧ ((lsS F cn dq kq r q (l, f)).2 = (lsS F cn dq kq r q (l, f')).2 ∨ ((lsS F cn dq kq r q (l, f)).1 = l ∧ (lsS F cn dq kq r q (l, f)).2 = f ∧ (lsS F cn dq kq r q (l, f')).2 = f'))
  | 0, _, _, _, _ => ⟨rfl, Or.inr ⟨rfl, rfl, rfl⟩⟩
  | r + 1, q, l, f, f' => by
    rw [lsS_s, lsS_s]
    dsimp only
    split
    · exact lsS_f r (q + 1) l f f'
    · split
      · exact ⟨rfl, Or.inl rfl⟩
      · exact lsS_f r (q + 1) l f f'
abbrev G8 : Nat → Nat → Nat → Prop := fun g _ _ => 8 ≤ g
theorem sO_k8 {σ σ' : Sg} {c : Nat} {p : Int} (hc : c < 8) (h : Fr G8 σ σ') : sO σ' c p = sO σ c p := by
  funext v
  unfold sO
  rw [h c 0 9 (by simp only [G8]; omega), h c 11 _ (by simp only [G8]; omega), h c 10 _ (by simp only [G8]; omega)]
theorem ChT.k8 {σ σ' : Sg} {c : Nat} {T : List (Int × Int)} (hc : c < 8) (h : ChT σ c T) (hf : Fr G8 σ σ') : ChT σ' c T := h.keep (hf.mono (fun g j k q => by simp only [frT, G8] at q ⊢; omega))
/-- a chord whose placements are gathered: its tones T, how many placements N -/
def ChG (σ : Sg) (c : Nat) (T : List (Int × Int)) (N : Nat) : Prop := ChT σ c T ∧ TnOk T ∧ σ c 0 16 = (N : Int) ∧ N ≤ 64 ∧ (-1 ≤ σ c 0 12 ∧ σ c 0 12 ≤ 11) ∧ (-1 ≤ σ c 0 13 ∧ σ c 0 13 ≤ 11) ∧ (-1 ≤ σ c 0 14 ∧ σ c 0 14 ≤ 11) ∧ ∀ p : Int, 0 ≤ p → p < N → sIn (sO σ c p)
theorem ChG.k8 {σ σ' : Sg} {c : Nat} {T : List (Int × Int)} {N : Nat} (hc : c < 8) (h : ChG σ c T N) (hf : Fr G8 σ σ') : ChG σ' c T N := by
  obtain ⟨h1, h2, h3, h4, h5, h6, h7, h8⟩ := h
  have e : ∀ j k, σ' c j k = σ c j k := fun j k => hf c j k (by simp only [G8]; omega)
  refine ⟨h1.k8 hc hf, h2, (e 0 16).trans h3, h4, by rw [e]; exact h5, by rw [e]; exact h6, by rw [e]; exact h7, fun p p0 p1 => ?_⟩
  rw [sO_k8 hc hf]
  exact h8 p p0 p1
def feA (σ : Sg) (c : Nat) (p : Int) : Int := fee3 (sO σ c p) (σ c 0 12) (σ c 0 13) (σ c 0 14)
def dsA (σ : Sg) (c : Nat) (p q : Int) : Int := dst (sO σ c p) (sO σ (c + 1) q)
def ltA (T : List (Int × Int)) (w : Int → Int) : Int → Int := fun v => lmp T (w v % 12)
def kpA (σ : Sg) (T : Nat → List (Int × Int)) (c : Nat) (p q : Int) : Int := kps (σ c 0 12) (σ c 0 13) (sO σ c p) (sO σ (c + 1) q) (ltA (T c) (sO σ c p)) (ltA (T (c + 1)) (sO σ (c + 1) q))
theorem ltA_in {T : List (Int × Int)} (h : TnOk T) (w : Int → Int) : lIn (ltA T w) := fun v _ _ => lmp_in h _
theorem feA_in (σ : Sg) (c : Nat) (p : Int) : 0 ≤ feA σ c p ∧ feA σ c p ≤ 63 := by
  have a := dbs_in (sO σ c p) (σ c 0 12)
  have b := dbs_in (sO σ c p) (σ c 0 13)
  have d := dbs_in (sO σ c p) (σ c 0 14)
  unfold feA fee3
  omega
theorem allz_in : ∀ L : List Int, allz L = 0 ∨ allz L = 1
  | [] => Or.inr rfl
  | b :: t => by
    simp only [allz]
    split
    · exact allz_in t
    · exact Or.inl rfl
theorem kpA_in (σ : Sg) (T : Nat → List (Int × Int)) (c : Nat) (p q : Int) : 0 ≤ kpA σ T c p q ∧ kpA σ T c p q ≤ 1 := b01 (allz_in _)
theorem dsA_in {σ : Sg} {c : Nat} {T T' : List (Int × Int)} {N N' : Nat} (h : ChG σ c T N) (h' : ChG σ (c + 1) T' N') {p q : Int} (hp : 0 ≤ p ∧ p < N) (hq : 0 ≤ q ∧ q < N') : 0 ≤ dsA σ c p q ∧ dsA σ c p q ≤ 381 := dst_in (h.2.2.2.2.2.2.2 p hp.1 hp.2) (h'.2.2.2.2.2.2.2 q hq.1 hq.2)
def frW (i p : Nat) : Nat → Nat → Nat → Prop := fun g j k => (g = 8 ∧ 5 ≤ j ∧ j ≤ 9) ∨ (g = 11 ∧ j = i ∧ k = p)
section WG
variable {d : Nat} {σ : Sg} {i : Nat} {T : Nat → List (Int × Int)} {N : Nat → Nat} {p n : Int} {cn : Int → Int} {Q : Rs → Sg → Prop}
theorem l_wg (hi : i + 1 < 8) (hG : ChG σ i (T i) (N i)) (hG' : ChG σ (i + 1) (T (i + 1)) (N (i + 1))) (hp : 0 ≤ p ∧ p < N i) (hn : 1 ≤ n ∧ n ≤ 8) (hc : ∀ q : Int, 0 ≤ q → q < N (i + 1) → σ 10 (i + 1) q.toNat = cn q ∧ -1 ≤ cn q ∧ cn q ≤ 100000) :
    ∀ (r : Nat) (q l f : Int) (σ1 : Sg) (x : Option Va), 0 ≤ q → q + r = (N (i + 1) : Int) → MvF σ1 5 (σ i 0 12) (σ i 0 13) (sO σ i p) (ltA (T i) (sO σ i p)) → Fr (frW i p.toNat) σ σ1 → σ1 11 i p.toNat = f → (-1 ≤ l ∧ l ≤ 200000) → (∀ σ' y z, σ' 11 i p.toNat = (lsS (feA σ i p) cn (dsA σ i p) (kpA σ T i p) r q (l, f)).2 → Fr (frW i p.toNat) σ σ' → Wx (d + 3) 57 157 [some (vr 8 4), some (vr 8 3), some (vi n), some (vi (i : Int)), some (vi p), some (vi (feA σ i p)), some (vi (lsS (feA σ i p) cn (dsA σ i p) (kpA σ T i p) r q (l, f)).1), y, z] [] σ' Q) → Wx (d + 3) 57 47 [some (vr 8 4), some (vr 8 3), some (vi n), some (vi (i : Int)), some (vi p), some (vi (feA σ i p)), some (vi l), some (vi q), x] [] σ1 Q := by
  have hN := hG'.2.2.2.1
  have hNp := hG.2.2.2.1
  have z1 : ((i : Int) + 1).toNat = i + 1 := by omega
  have F1 := feA_in σ i p
  intro r
  induction r with
  | zero =>
    intro q l f σ1 x h0 h1 hM hF hf hl k
    have f8 : Fr G8 σ σ1 := hF.mono (fun g j k q => by simp only [frW, G8] at q ⊢; omega)
    have e1 := (hG'.k8 (by omega) f8).2.2.1
    rw [u57_47]
    simp (disch := first | omega | simp) only [u57_0, u57_1, u57_2, u57_3, u57_5, u57_8, u57_10, u57_11, u57_12, u57_13, u57_14, u57_17, u57_18, u57_21, u57_22, u57_23, u57_25, u57_27, u57_28, u57_29, u57_30, u57_32, u57_33, u57_36, u57_37, u57_38, u57_39, u57_41, u57_44, u57_45, u57_49, u57_50, u57_51, u57_52, u57_53, u57_54, u57_57, u57_60, u57_61, u57_64, u57_65, u57_66, u57_67, u57_68, u57_70, u57_71, u57_72, u57_75, u57_76, u57_79, u57_80, u57_81, u57_82, u57_83, u57_84, u57_86, u57_89, u57_91, u57_92, u57_95, u57_98, u57_99, u57_100, u57_103, u57_104, u57_105, u57_106, u57_107, u57_109, u57_110, u57_111, u57_113, u57_115, u57_116, u57_119, u57_121, u57_123, u57_126, u57_127, u57_130, u57_133, u57_136, u57_138, u57_140, u57_141, u57_144, u57_145, u57_146, u57_148, u57_150, u57_151, u57_154, u57_158, u57_161, u57_162, u57_163, u57_165, u57_167, u57_168, o_8_0, fv_8_0_0, fv_8_0_1, fv_8_0_2, fv_8_0_3, fv_8_0_4, rf_8_0_4, o_8_1, fv_8_1_0, fv_8_1_1, rf_8_1_1, o_8_4, fv_8_4_0, fv_8_4_1, fv_8_4_2, fv_8_4_3, fv_8_4_4, fv_8_4_5, fv_8_4_6, rf_8_4_6, o_8_5, fv_8_5_0, fv_8_5_1, fv_8_5_2, fv_8_5_3, fv_8_5_4, rf_8_5_4, fv_8_5_5, rf_8_5_5, o_8_15, fv_8_15_0, fv_8_15_1, fv_8_15_2, fv_8_15_3, fv_8_15_4, rf_8_15_4, o_8_16, fv_8_16_0, fv_8_16_1, fv_8_16_2, fv_8_16_3, fv_8_16_4, rf_8_16_4, fv_8_16_5, rf_8_16_5, ia_8_2, is_8_2, ia_8_6, is_8_6, ia_8_7, is_8_7, ia_8_8, is_8_8, ia_8_9, is_8_9, ia_8_14, is_8_14, ia_8_17, is_8_17, ia_8_18, is_8_18, ia_8_19, is_8_19, ia_8_20, is_8_20, ia_8_21, is_8_21, ia_8_22, is_8_22, ia_8_23, is_8_23, iz_8_12, iz_8_13, aa_3, ar_3, aa_10, ar_10, aa_11, ar_11, ia_10, is_10, ia_11, is_11, o_c0, fv_c0_0, fv_c0_1, fv_c0_2, fv_c0_3, fv_c0_4, fv_c0_5, fv_c0_6, fv_c0_7, rf_c0_7, fv_c0_8, rf_c0_8, fv_c0_9, rf_c0_9, fv_c0_10, rf_c0_10, fv_c0_11, rf_c0_11, fv_c0_12, rf_c0_12, fv_c0_13, rf_c0_13, fv_c0_14, rf_c0_14, fv_c0_15, rf_c0_15, fv_c0_16, rf_c0_16, fv_c0_17, rf_c0_17, o_c1, fv_c1_0, fv_c1_1, fv_c1_2, rf_c1_2, o_c4, fv_c4_0, fv_c4_1, fv_c4_2, rf_c4_2, ia_c2, is_c2, ia_c3, is_c3, ia_c5, is_c5, ia_c6, is_c6, ia_c7, is_c7, ia_c8, is_c8, ia_c9, is_c9, ia_c10, is_c10, ia_c11, is_c11, z1, e1, Li_s, Lr_s, Ll_s, On_s, lget, lset, clr_i, clr_r, clr_n, Kc_i, Kc_v, Kc_x, true_and, and_true, List.length_cons, List.length_nil, nlg, isLn, List.all_cons, List.all_nil, Bool.and_true, Bool.not_false, Nat.zero_le, Nat.reduceAdd, Nat.reduceLeDiff, ↓reduceIte, Int.reduceLT, Int.reduceLE, Int.reduceAdd, Int.reduceSub, Int.reduceMul, Int.reduceNeg, Int.reduceToNat, Int.reduceEq, not_true_eq_false, not_false_eq_true, Int.toNat_zero, true_or, or_true]
    rw [if_pos (by omega)]
    exact k σ1 _ _ hf hF
  | succ r ih =>
    intro q l f σ1 x h0 h1 hM hF hf hl k
    have f8 : Fr G8 σ σ1 := hF.mono (fun g j k q => by simp only [frW, G8] at q ⊢; omega)
    have e1 := (hG'.k8 (by omega) f8).2.2.1
    obtain ⟨c1, c2⟩ := hc q h0 (by omega)
    have e2 : σ1 10 (i + 1) q.toNat = cn q := (hF 10 (i + 1) q.toNat (by simp only [frW]; omega)).trans c1
    rw [lsS_s] at k
    dsimp only at k
    have key : ∀ (l' f' : Int) (σ2 : Sg) (y : Option Va), (l', f') = (if cn q = -1 then (l, f) else if (l = -1 ∨ feA σ i p + dsA σ i p q + cn q < l) ∧ ¬ kpA σ T i p q = 0 then (feA σ i p + dsA σ i p q + cn q, q) else (l, f)) → (-1 ≤ l' ∧ l' ≤ 200000) → MvF σ2 5 (σ i 0 12) (σ i 0 13) (sO σ i p) (ltA (T i) (sO σ i p)) → Fr (frW i p.toNat) σ σ2 → σ2 11 i p.toNat = f' → Wx (d + 3) 57 151 [some (vr 8 4), some (vr 8 3), some (vi n), some (vi (i : Int)), some (vi p), some (vi (feA σ i p)), some (vi l'), some (vi q), y] [] σ2 Q := by
      intro l' f' σ2 y he hl' hM2 hF2 hf2
      rw [← he] at k
      simp (disch := first | omega | simp) only [u57_0, u57_1, u57_2, u57_3, u57_5, u57_8, u57_10, u57_11, u57_12, u57_13, u57_14, u57_17, u57_18, u57_21, u57_22, u57_23, u57_25, u57_27, u57_28, u57_29, u57_30, u57_32, u57_33, u57_36, u57_37, u57_38, u57_39, u57_41, u57_44, u57_45, u57_49, u57_50, u57_51, u57_52, u57_53, u57_54, u57_57, u57_60, u57_61, u57_64, u57_65, u57_66, u57_67, u57_68, u57_70, u57_71, u57_72, u57_75, u57_76, u57_79, u57_80, u57_81, u57_82, u57_83, u57_84, u57_86, u57_89, u57_91, u57_92, u57_95, u57_98, u57_99, u57_100, u57_103, u57_104, u57_105, u57_106, u57_107, u57_109, u57_110, u57_111, u57_113, u57_115, u57_116, u57_119, u57_121, u57_123, u57_126, u57_127, u57_130, u57_133, u57_136, u57_138, u57_140, u57_141, u57_144, u57_145, u57_146, u57_148, u57_150, u57_151, u57_154, u57_158, u57_161, u57_162, u57_163, u57_165, u57_167, u57_168, o_8_0, fv_8_0_0, fv_8_0_1, fv_8_0_2, fv_8_0_3, fv_8_0_4, rf_8_0_4, o_8_1, fv_8_1_0, fv_8_1_1, rf_8_1_1, o_8_4, fv_8_4_0, fv_8_4_1, fv_8_4_2, fv_8_4_3, fv_8_4_4, fv_8_4_5, fv_8_4_6, rf_8_4_6, o_8_5, fv_8_5_0, fv_8_5_1, fv_8_5_2, fv_8_5_3, fv_8_5_4, rf_8_5_4, fv_8_5_5, rf_8_5_5, o_8_15, fv_8_15_0, fv_8_15_1, fv_8_15_2, fv_8_15_3, fv_8_15_4, rf_8_15_4, o_8_16, fv_8_16_0, fv_8_16_1, fv_8_16_2, fv_8_16_3, fv_8_16_4, rf_8_16_4, fv_8_16_5, rf_8_16_5, ia_8_2, is_8_2, ia_8_6, is_8_6, ia_8_7, is_8_7, ia_8_8, is_8_8, ia_8_9, is_8_9, ia_8_14, is_8_14, ia_8_17, is_8_17, ia_8_18, is_8_18, ia_8_19, is_8_19, ia_8_20, is_8_20, ia_8_21, is_8_21, ia_8_22, is_8_22, ia_8_23, is_8_23, iz_8_12, iz_8_13, aa_3, ar_3, aa_10, ar_10, aa_11, ar_11, ia_10, is_10, ia_11, is_11, o_c0, fv_c0_0, fv_c0_1, fv_c0_2, fv_c0_3, fv_c0_4, fv_c0_5, fv_c0_6, fv_c0_7, rf_c0_7, fv_c0_8, rf_c0_8, fv_c0_9, rf_c0_9, fv_c0_10, rf_c0_10, fv_c0_11, rf_c0_11, fv_c0_12, rf_c0_12, fv_c0_13, rf_c0_13, fv_c0_14, rf_c0_14, fv_c0_15, rf_c0_15, fv_c0_16, rf_c0_16, fv_c0_17, rf_c0_17, o_c1, fv_c1_0, fv_c1_1, fv_c1_2, rf_c1_2, o_c4, fv_c4_0, fv_c4_1, fv_c4_2, rf_c4_2, ia_c2, is_c2, ia_c3, is_c3, ia_c5, is_c5, ia_c6, is_c6, ia_c7, is_c7, ia_c8, is_c8, ia_c9, is_c9, ia_c10, is_c10, ia_c11, is_c11, Li_s, Lr_s, Ll_s, On_s, lget, lset, clr_i, clr_r, clr_n, Kc_i, Kc_v, Kc_x, true_and, and_true, List.length_cons, List.length_nil, nlg, isLn, List.all_cons, List.all_nil, Bool.and_true, Bool.not_false, Nat.zero_le, Nat.reduceAdd, Nat.reduceLeDiff, ↓reduceIte, Int.reduceLT, Int.reduceLE, Int.reduceAdd, Int.reduceSub, Int.reduceMul, Int.reduceNeg, Int.reduceToNat, Int.reduceEq, not_true_eq_false, not_false_eq_true, Int.toNat_zero, true_or, or_true]
      exact ih (q + 1) l' f' σ2 _ (by omega) (by omega) hM2 hF2 hf2 hl' k
    rw [u57_47]
    simp (disch := first | omega | simp) only [u57_0, u57_1, u57_2, u57_3, u57_5, u57_8, u57_10, u57_11, u57_12, u57_13, u57_14, u57_17, u57_18, u57_21, u57_22, u57_23, u57_25, u57_27, u57_28, u57_29, u57_30, u57_32, u57_33, u57_36, u57_37, u57_38, u57_39, u57_41, u57_44, u57_45, u57_49, u57_50, u57_51, u57_52, u57_53, u57_54, u57_57, u57_60, u57_61, u57_64, u57_65, u57_66, u57_67, u57_68, u57_70, u57_71, u57_72, u57_75, u57_76, u57_79, u57_80, u57_81, u57_82, u57_83, u57_84, u57_86, u57_89, u57_91, u57_92, u57_95, u57_98, u57_99, u57_100, u57_103, u57_104, u57_105, u57_106, u57_107, u57_109, u57_110, u57_111, u57_113, u57_115, u57_116, u57_119, u57_121, u57_123, u57_126, u57_127, u57_130, u57_133, u57_136, u57_138, u57_140, u57_141, u57_144, u57_145, u57_146, u57_148, u57_150, u57_154, u57_158, u57_161, u57_162, u57_163, u57_165, u57_167, u57_168, o_8_0, fv_8_0_0, fv_8_0_1, fv_8_0_2, fv_8_0_3, fv_8_0_4, rf_8_0_4, o_8_1, fv_8_1_0, fv_8_1_1, rf_8_1_1, o_8_4, fv_8_4_0, fv_8_4_1, fv_8_4_2, fv_8_4_3, fv_8_4_4, fv_8_4_5, fv_8_4_6, rf_8_4_6, o_8_5, fv_8_5_0, fv_8_5_1, fv_8_5_2, fv_8_5_3, fv_8_5_4, rf_8_5_4, fv_8_5_5, rf_8_5_5, o_8_15, fv_8_15_0, fv_8_15_1, fv_8_15_2, fv_8_15_3, fv_8_15_4, rf_8_15_4, o_8_16, fv_8_16_0, fv_8_16_1, fv_8_16_2, fv_8_16_3, fv_8_16_4, rf_8_16_4, fv_8_16_5, rf_8_16_5, ia_8_2, is_8_2, ia_8_6, is_8_6, ia_8_7, is_8_7, ia_8_8, is_8_8, ia_8_9, is_8_9, ia_8_14, is_8_14, ia_8_17, is_8_17, ia_8_18, is_8_18, ia_8_19, is_8_19, ia_8_20, is_8_20, ia_8_21, is_8_21, ia_8_22, is_8_22, ia_8_23, is_8_23, iz_8_12, iz_8_13, aa_3, ar_3, aa_10, ar_10, aa_11, ar_11, ia_10, is_10, ia_11, is_11, o_c0, fv_c0_0, fv_c0_1, fv_c0_2, fv_c0_3, fv_c0_4, fv_c0_5, fv_c0_6, fv_c0_7, rf_c0_7, fv_c0_8, rf_c0_8, fv_c0_9, rf_c0_9, fv_c0_10, rf_c0_10, fv_c0_11, rf_c0_11, fv_c0_12, rf_c0_12, fv_c0_13, rf_c0_13, fv_c0_14, rf_c0_14, fv_c0_15, rf_c0_15, fv_c0_16, rf_c0_16, fv_c0_17, rf_c0_17, o_c1, fv_c1_0, fv_c1_1, fv_c1_2, rf_c1_2, o_c4, fv_c4_0, fv_c4_1, fv_c4_2, rf_c4_2, ia_c2, is_c2, ia_c3, is_c3, ia_c5, is_c5, ia_c6, is_c6, ia_c7, is_c7, ia_c8, is_c8, ia_c9, is_c9, ia_c10, is_c10, ia_c11, is_c11, z1, e1, e2, ia_10, aa_10, ar_10, Li_s, Lr_s, Ll_s, On_s, lget, lset, clr_i, clr_r, clr_n, Kc_i, Kc_v, Kc_x, true_and, and_true, List.length_cons, List.length_nil, nlg, isLn, List.all_cons, List.all_nil, Bool.and_true, Bool.not_false, Nat.zero_le, Nat.reduceAdd, Nat.reduceLeDiff, ↓reduceIte, Int.reduceLT, Int.reduceLE, Int.reduceAdd, Int.reduceSub, Int.reduceMul, Int.reduceNeg, Int.reduceToNat, Int.reduceEq, not_true_eq_false, not_false_eq_true, Int.toNat_zero, true_or, or_true]
    rw [if_neg (by omega)]
    by_cases hcn : cn q = -1
    · rw [if_pos hcn]
      exact key l f σ1 _ (by rw [if_pos hcn]) hl hM hF hf
    · rw [if_neg hcn]
      have hw' := hG'.2.2.2.2.2.2.2 q h0 (by omega)
      have D1 := dsA_in hG hG' hp ⟨h0, by omega⟩
      have K1 := kpA_in σ T i p q
      have es := sO_k8 (p := q) (show i + 1 < 8 by omega) f8
      refine w_endAt_5 (by omega) (hG'.1.k8 (by omega) f8) (by omega) (by rw [es]; exact hw') (fun σ2 hT2 hF2 => ?_)
      rw [es] at hT2
      have g2 : Fr (frW i p.toNat) σ σ2 := hF.tr (hF2.mono (fun g j k q => by simp only [frE, frW] at q ⊢; omega))
      have hM2 : MvF σ2 5 (σ i 0 12) (σ i 0 13) (sO σ i p) (ltA (T i) (sO σ i p)) := ⟨(hF2 8 5 4 (by simp [frE])).trans hM.1, (hF2 8 5 5 (by simp [frE])).trans hM.2.1, fun v v0 v1 => by rw [hF2 8 6 _ (by simp [frE]), hF2 8 8 _ (by simp [frE])]; exact hM.2.2 v v0 v1⟩
      have sF := hG.2.2.2.2.2.2.2 p hp.1 hp.2
      have e3 : σ2 10 (i + 1) q.toNat = cn q := (g2 10 (i + 1) q.toNat (by simp only [frW]; omega)).trans c1
      have e4 : σ2 11 i p.toNat = f := (hF2 11 i _ (by simp [frE])).trans hf
      simp (disch := first | omega | simp) only [u57_0, u57_1, u57_2, u57_3, u57_5, u57_8, u57_10, u57_11, u57_12, u57_13, u57_14, u57_17, u57_18, u57_21, u57_22, u57_23, u57_25, u57_27, u57_28, u57_29, u57_30, u57_32, u57_33, u57_36, u57_37, u57_38, u57_39, u57_41, u57_44, u57_45, u57_49, u57_50, u57_51, u57_52, u57_53, u57_54, u57_57, u57_60, u57_61, u57_64, u57_65, u57_66, u57_67, u57_68, u57_70, u57_71, u57_72, u57_75, u57_76, u57_79, u57_80, u57_81, u57_82, u57_83, u57_84, u57_86, u57_89, u57_91, u57_92, u57_95, u57_98, u57_99, u57_100, u57_103, u57_104, u57_105, u57_106, u57_107, u57_109, u57_110, u57_111, u57_113, u57_115, u57_116, u57_119, u57_121, u57_123, u57_126, u57_127, u57_130, u57_133, u57_136, u57_138, u57_140, u57_141, u57_144, u57_145, u57_146, u57_148, u57_150, u57_154, u57_158, u57_161, u57_162, u57_163, u57_165, u57_167, u57_168, o_8_0, fv_8_0_0, fv_8_0_1, fv_8_0_2, fv_8_0_3, fv_8_0_4, rf_8_0_4, o_8_1, fv_8_1_0, fv_8_1_1, rf_8_1_1, o_8_4, fv_8_4_0, fv_8_4_1, fv_8_4_2, fv_8_4_3, fv_8_4_4, fv_8_4_5, fv_8_4_6, rf_8_4_6, o_8_5, fv_8_5_0, fv_8_5_1, fv_8_5_2, fv_8_5_3, fv_8_5_4, rf_8_5_4, fv_8_5_5, rf_8_5_5, o_8_15, fv_8_15_0, fv_8_15_1, fv_8_15_2, fv_8_15_3, fv_8_15_4, rf_8_15_4, o_8_16, fv_8_16_0, fv_8_16_1, fv_8_16_2, fv_8_16_3, fv_8_16_4, rf_8_16_4, fv_8_16_5, rf_8_16_5, ia_8_2, is_8_2, ia_8_6, is_8_6, ia_8_7, is_8_7, ia_8_8, is_8_8, ia_8_9, is_8_9, ia_8_14, is_8_14, ia_8_17, is_8_17, ia_8_18, is_8_18, ia_8_19, is_8_19, ia_8_20, is_8_20, ia_8_21, is_8_21, ia_8_22, is_8_22, ia_8_23, is_8_23, iz_8_12, iz_8_13, aa_3, ar_3, aa_10, ar_10, aa_11, ar_11, ia_10, is_10, ia_11, is_11, o_c0, fv_c0_0, fv_c0_1, fv_c0_2, fv_c0_3, fv_c0_4, fv_c0_5, fv_c0_6, fv_c0_7, rf_c0_7, fv_c0_8, rf_c0_8, fv_c0_9, rf_c0_9, fv_c0_10, rf_c0_10, fv_c0_11, rf_c0_11, fv_c0_12, rf_c0_12, fv_c0_13, rf_c0_13, fv_c0_14, rf_c0_14, fv_c0_15, rf_c0_15, fv_c0_16, rf_c0_16, fv_c0_17, rf_c0_17, o_c1, fv_c1_0, fv_c1_1, fv_c1_2, rf_c1_2, o_c4, fv_c4_0, fv_c4_1, fv_c4_2, rf_c4_2, ia_c2, is_c2, ia_c3, is_c3, ia_c5, is_c5, ia_c6, is_c6, ia_c7, is_c7, ia_c8, is_c8, ia_c9, is_c9, ia_c10, is_c10, ia_c11, is_c11, z1, Li_s, Lr_s, Ll_s, On_s, lget, lset, clr_i, clr_r, clr_n, Kc_i, Kc_v, Kc_x, true_and, and_true, List.length_cons, List.length_nil, nlg, isLn, List.all_cons, List.all_nil, Bool.and_true, Bool.not_false, Nat.zero_le, Nat.reduceAdd, Nat.reduceLeDiff, ↓reduceIte, Int.reduceLT, Int.reduceLE, Int.reduceAdd, Int.reduceSub, Int.reduceMul, Int.reduceNeg, Int.reduceToNat, Int.reduceEq, not_true_eq_false, not_false_eq_true, Int.toNat_zero, true_or, or_true]
      rw [(r_distance (Or.inl rfl) hM2 hT2 sF hw').iff, show dst (sO σ i p) (sO σ (i + 1) q) = dsA σ i p q from rfl]
      simp (disch := first | omega | simp) only [u57_0, u57_1, u57_2, u57_3, u57_5, u57_8, u57_10, u57_11, u57_12, u57_13, u57_14, u57_17, u57_18, u57_21, u57_22, u57_23, u57_25, u57_27, u57_28, u57_29, u57_30, u57_32, u57_33, u57_36, u57_37, u57_38, u57_39, u57_41, u57_44, u57_45, u57_49, u57_50, u57_51, u57_52, u57_53, u57_54, u57_57, u57_60, u57_61, u57_64, u57_65, u57_66, u57_67, u57_68, u57_70, u57_71, u57_72, u57_75, u57_76, u57_79, u57_80, u57_81, u57_82, u57_83, u57_84, u57_86, u57_89, u57_91, u57_92, u57_95, u57_98, u57_99, u57_100, u57_103, u57_104, u57_105, u57_106, u57_107, u57_109, u57_110, u57_111, u57_113, u57_115, u57_116, u57_119, u57_121, u57_123, u57_126, u57_127, u57_130, u57_133, u57_136, u57_138, u57_140, u57_141, u57_144, u57_145, u57_146, u57_148, u57_150, u57_154, u57_158, u57_161, u57_162, u57_163, u57_165, u57_167, u57_168, o_8_0, fv_8_0_0, fv_8_0_1, fv_8_0_2, fv_8_0_3, fv_8_0_4, rf_8_0_4, o_8_1, fv_8_1_0, fv_8_1_1, rf_8_1_1, o_8_4, fv_8_4_0, fv_8_4_1, fv_8_4_2, fv_8_4_3, fv_8_4_4, fv_8_4_5, fv_8_4_6, rf_8_4_6, o_8_5, fv_8_5_0, fv_8_5_1, fv_8_5_2, fv_8_5_3, fv_8_5_4, rf_8_5_4, fv_8_5_5, rf_8_5_5, o_8_15, fv_8_15_0, fv_8_15_1, fv_8_15_2, fv_8_15_3, fv_8_15_4, rf_8_15_4, o_8_16, fv_8_16_0, fv_8_16_1, fv_8_16_2, fv_8_16_3, fv_8_16_4, rf_8_16_4, fv_8_16_5, rf_8_16_5, ia_8_2, is_8_2, ia_8_6, is_8_6, ia_8_7, is_8_7, ia_8_8, is_8_8, ia_8_9, is_8_9, ia_8_14, is_8_14, ia_8_17, is_8_17, ia_8_18, is_8_18, ia_8_19, is_8_19, ia_8_20, is_8_20, ia_8_21, is_8_21, ia_8_22, is_8_22, ia_8_23, is_8_23, iz_8_12, iz_8_13, aa_3, ar_3, aa_10, ar_10, aa_11, ar_11, ia_10, is_10, ia_11, is_11, o_c0, fv_c0_0, fv_c0_1, fv_c0_2, fv_c0_3, fv_c0_4, fv_c0_5, fv_c0_6, fv_c0_7, rf_c0_7, fv_c0_8, rf_c0_8, fv_c0_9, rf_c0_9, fv_c0_10, rf_c0_10, fv_c0_11, rf_c0_11, fv_c0_12, rf_c0_12, fv_c0_13, rf_c0_13, fv_c0_14, rf_c0_14, fv_c0_15, rf_c0_15, fv_c0_16, rf_c0_16, fv_c0_17, rf_c0_17, o_c1, fv_c1_0, fv_c1_1, fv_c1_2, rf_c1_2, o_c4, fv_c4_0, fv_c4_1, fv_c4_2, rf_c4_2, ia_c2, is_c2, ia_c3, is_c3, ia_c5, is_c5, ia_c6, is_c6, ia_c7, is_c7, ia_c8, is_c8, ia_c9, is_c9, ia_c10, is_c10, ia_c11, is_c11, z1, e3, ia_10, aa_10, ar_10, Li_s, Lr_s, Ll_s, On_s, lget, lset, clr_i, clr_r, clr_n, Kc_i, Kc_v, Kc_x, true_and, and_true, List.length_cons, List.length_nil, nlg, isLn, List.all_cons, List.all_nil, Bool.and_true, Bool.not_false, Nat.zero_le, Nat.reduceAdd, Nat.reduceLeDiff, ↓reduceIte, Int.reduceLT, Int.reduceLE, Int.reduceAdd, Int.reduceSub, Int.reduceMul, Int.reduceNeg, Int.reduceToNat, Int.reduceEq, not_true_eq_false, not_false_eq_true, Int.toNat_zero, true_or, or_true]
      have kc : l = -1 ∨ feA σ i p + dsA σ i p q + cn q < l → Wm (d + 2) 50 [vr 8 5] σ2 (Kc (d + 2 + 1) 57 133 [some (vr 8 4), some (vr 8 3), some (vi n), some (vi (i : Int)), some (vi p), some (vi (feA σ i p)), some (vi l), some (vi q), some (vi (feA σ i p + dsA σ i p q + cn q))] [] Q) := by
        intro hcond
        rw [(r_keeps (Or.inl rfl) hM2 hT2 sF hw' (ltA_in hG.2.1 _) (ltA_in hG'.2.1 _) hG.2.2.2.2.1 hG.2.2.2.2.2.1).iff, show kps (σ i 0 12) (σ i 0 13) (sO σ i p) (sO σ (i + 1) q) (ltA (T i) (sO σ i p)) (fun v => lmp (T (i + 1)) (sO σ (i + 1) q v % 12)) = kpA σ T i p q from rfl]
        simp (disch := first | omega | simp) only [u57_0, u57_1, u57_2, u57_3, u57_5, u57_8, u57_10, u57_11, u57_12, u57_13, u57_14, u57_17, u57_18, u57_21, u57_22, u57_23, u57_25, u57_27, u57_28, u57_29, u57_30, u57_32, u57_33, u57_36, u57_37, u57_38, u57_39, u57_41, u57_44, u57_45, u57_49, u57_50, u57_51, u57_52, u57_53, u57_54, u57_57, u57_60, u57_61, u57_64, u57_65, u57_66, u57_67, u57_68, u57_70, u57_71, u57_72, u57_75, u57_76, u57_79, u57_80, u57_81, u57_82, u57_83, u57_84, u57_86, u57_89, u57_91, u57_92, u57_95, u57_98, u57_99, u57_100, u57_103, u57_104, u57_105, u57_106, u57_107, u57_109, u57_110, u57_111, u57_113, u57_115, u57_116, u57_119, u57_121, u57_123, u57_126, u57_127, u57_130, u57_133, u57_136, u57_138, u57_140, u57_141, u57_144, u57_145, u57_146, u57_148, u57_150, u57_154, u57_158, u57_161, u57_162, u57_163, u57_165, u57_167, u57_168, o_8_0, fv_8_0_0, fv_8_0_1, fv_8_0_2, fv_8_0_3, fv_8_0_4, rf_8_0_4, o_8_1, fv_8_1_0, fv_8_1_1, rf_8_1_1, o_8_4, fv_8_4_0, fv_8_4_1, fv_8_4_2, fv_8_4_3, fv_8_4_4, fv_8_4_5, fv_8_4_6, rf_8_4_6, o_8_5, fv_8_5_0, fv_8_5_1, fv_8_5_2, fv_8_5_3, fv_8_5_4, rf_8_5_4, fv_8_5_5, rf_8_5_5, o_8_15, fv_8_15_0, fv_8_15_1, fv_8_15_2, fv_8_15_3, fv_8_15_4, rf_8_15_4, o_8_16, fv_8_16_0, fv_8_16_1, fv_8_16_2, fv_8_16_3, fv_8_16_4, rf_8_16_4, fv_8_16_5, rf_8_16_5, ia_8_2, is_8_2, ia_8_6, is_8_6, ia_8_7, is_8_7, ia_8_8, is_8_8, ia_8_9, is_8_9, ia_8_14, is_8_14, ia_8_17, is_8_17, ia_8_18, is_8_18, ia_8_19, is_8_19, ia_8_20, is_8_20, ia_8_21, is_8_21, ia_8_22, is_8_22, ia_8_23, is_8_23, iz_8_12, iz_8_13, aa_3, ar_3, aa_10, ar_10, aa_11, ar_11, ia_10, is_10, ia_11, is_11, o_c0, fv_c0_0, fv_c0_1, fv_c0_2, fv_c0_3, fv_c0_4, fv_c0_5, fv_c0_6, fv_c0_7, rf_c0_7, fv_c0_8, rf_c0_8, fv_c0_9, rf_c0_9, fv_c0_10, rf_c0_10, fv_c0_11, rf_c0_11, fv_c0_12, rf_c0_12, fv_c0_13, rf_c0_13, fv_c0_14, rf_c0_14, fv_c0_15, rf_c0_15, fv_c0_16, rf_c0_16, fv_c0_17, rf_c0_17, o_c1, fv_c1_0, fv_c1_1, fv_c1_2, rf_c1_2, o_c4, fv_c4_0, fv_c4_1, fv_c4_2, rf_c4_2, ia_c2, is_c2, ia_c3, is_c3, ia_c5, is_c5, ia_c6, is_c6, ia_c7, is_c7, ia_c8, is_c8, ia_c9, is_c9, ia_c10, is_c10, ia_c11, is_c11, is_11, aa_11, ar_11, Int.toNat_natCast, Li_s, Lr_s, Ll_s, On_s, lget, lset, clr_i, clr_r, clr_n, Kc_i, Kc_v, Kc_x, true_and, and_true, List.length_cons, List.length_nil, nlg, isLn, List.all_cons, List.all_nil, Bool.and_true, Bool.not_false, Nat.zero_le, Nat.reduceAdd, Nat.reduceLeDiff, ↓reduceIte, Int.reduceLT, Int.reduceLE, Int.reduceAdd, Int.reduceSub, Int.reduceMul, Int.reduceNeg, Int.reduceToNat, Int.reduceEq, not_true_eq_false, not_false_eq_true, Int.toNat_zero, true_or, or_true]
        by_cases hk : kpA σ T i p q = 0
        · rw [if_pos hk]
          exact key l f σ2 _ (by rw [if_neg hcn, if_neg (fun q => q.2 hk)]) hl hM2 g2 e4
        · rw [if_neg hk]
          refine key _ q _ _ (by rw [if_neg hcn, if_pos ⟨hcond, hk⟩]) (by omega) ⟨?_, ?_, fun v v0 v1 => ?_⟩ (g2.tr (Fr.wr (Or.inr ⟨rfl, rfl, rfl⟩))) (by simp [up_at])
          · rw [up_at, if_neg (by omega)]
            exact hM2.1
          · rw [up_at, if_neg (by omega)]
            exact hM2.2.1
          · rw [up_at, if_neg (by omega), up_at, if_neg (by omega)]
            exact hM2.2.2 v v0 v1
      by_cases hl1 : l = -1
      · rw [if_pos hl1]
        exact kc (Or.inl hl1)
      · rw [if_neg hl1]
        by_cases hl2 : l ≤ feA σ i p + dsA σ i p q + cn q
        · rw [if_pos hl2]
          exact key l f σ2 _ (by rw [if_neg hcn, if_neg (by omega)]) hl hM2 g2 e4
        · rw [if_neg hl2]
          exact kc (Or.inr (by omega))
end WG
