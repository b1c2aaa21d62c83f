/-! THE LAW'S LOOP over the little machine -/
section LO
variable {d : Nat} {σ σ' : Sg} {f mi : Int} {n : Nat} {C : Nat → Cho} {W : Option (Nat → Int)} {L : List Flt} {i : Int} {N : Nat} {x5 x6 : Option Va} {ls : Lo} {st : List Va}
theorem and15 (a : Int) : ∃ k : Nat, k < 16 ∧ (i3 a &&& i3 15).toInt = (k : Int) := by
  refine ⟨(i3 a).toBitVec.toNat % 16, Nat.mod_lt _ (by decide), ?_⟩
  have h1 : (i3 a &&& i3 15).toBitVec.toNat = (i3 a).toBitVec.toNat % 16 := by
    rw [Int32.toBitVec_and, BitVec.toNat_and]
    exact Nat.and_two_pow_sub_one_eq_mod _ 4
  show (i3 a &&& i3 15).toBitVec.toInt = _
  rw [BitVec.toInt_eq_toNat_of_lt (by rw [h1]; omega), h1]
abbrev swI : Instr := .tableswitch 881 0 12 #[65, 129, 165, 257, 337, 405, 461, 541, 585, 653, 709, 769, 813]
def swT (k : Nat) : Nat := match k with
  | 0 => 104 | 1 => 168 | 2 => 204 | 3 => 296 | 4 => 376 | 5 => 444 | 6 => 500 | 7 => 580 | 8 => 624 | 9 => 692 | 10 => 748 | 11 => 808 | 12 => 852 | _ => 920
theorem sw_to : ∀ k : Nat, k < 16 → stpI 129 39 65 swI ls (vi (k : Int) :: st) σ = some (.inl (swT k, ls, st, σ))
  | 0, _ => rfl
  | 1, _ => rfl
  | 2, _ => rfl
  | 3, _ => rfl
  | 4, _ => rfl
  | 5, _ => rfl
  | 6, _ => rfl
  | 7, _ => rfl
  | 8, _ => rfl
  | 9, _ => rfl
  | 10, _ => rfl
  | 11, _ => rfl
  | 12, _ => rfl
  | 13, _ => rfl
  | 14, _ => rfl
  | 15, _ => rfl
  | n + 16, h => absurd h (by omega)
theorem lw_loop : ∀ (r : Nat) {σ : Sg} {f mi : Int} {n : Nat} {C : Nat → Cho} {W : Option (Nat → Int)} {L : List Flt} {i : Int} {x5 x6 : Option Va}, N ≤ 1000000 → LI σ f mi n C W L → Sc σ N → 0 ≤ i → i ≤ (N : Int) → (N : Int) < i + 5 * ((r : Int) + 1) → Wx (d + 8) 129 23 [some (vr 12 0), some (vr 8 0), some (vr 9 0), some (vr 14 0), some (vi i), x5, x6] [] σ (fun rr σ' => rr = .inl (some (vi 1)) ∧ σ 15 0 0 ≤ σ' 15 0 0 ∧ σ' 15 0 0 ≤ σ 15 0 0 + (r : Int)) := by
  intro r
  induction r with
  | zero =>
    intro σ f mi n C W L i x5 x6 hN hI hs h0 h1 h2
    have hz := hs.1
    rw [u129_23]
    simp (disch := first | omega | simp) only [u129_20, u129_21, u129_23, u129_25, u129_26, u129_27, u129_28, u129_29, u129_32, u129_33, u129_35, u129_36, u129_38, al_12, hz, Li_s, Lr_s, Ll_s, On_s, lget, lset, clr_i, clr_r, clr_n, Kc_i, Kc_v, Kc_x, true_and, and_true, List.length_cons, List.length_nil, nlg, isLn, List.all_cons, List.all_nil, Bool.and_true, Bool.not_false, Nat.zero_le, Nat.reduceAdd, Nat.reduceLeDiff, ↓reduceIte, Int.reduceLT, Int.reduceLE, Int.reduceAdd, Int.reduceSub, Int.reduceMul, Int.reduceNeg, Int.reduceToNat, Int.reduceEq, not_true_eq_false, not_false_eq_true, Int.toNat_zero, true_or, or_true]
    rw [if_pos (by omega)]
    simp (disch := first | omega | simp) only [u129_920, u129_923, u129_926, u129_927, Li_s, Lr_s, Ll_s, On_s, lget, lset, clr_i, clr_r, clr_n, Kc_i, Kc_v, Kc_x, true_and, and_true, List.length_cons, List.length_nil, nlg, isLn, List.all_cons, List.all_nil, Bool.and_true, Bool.not_false, Nat.zero_le, Nat.reduceAdd, Nat.reduceLeDiff, ↓reduceIte, Int.reduceLT, Int.reduceLE, Int.reduceAdd, Int.reduceSub, Int.reduceMul, Int.reduceNeg, Int.reduceToNat, Int.reduceEq, not_true_eq_false, not_false_eq_true, Int.toNat_zero, true_or, or_true]
    omega
  | succ r ih =>
    intro σ f mi n C W L i x5 x6 hN hI hs h0 h1 h2
    have hz := hs.1
    rw [u129_23]
    by_cases g : i + 5 ≤ (N : Int)
    · have z0 : ial σ 12 0 i = some (σ 12 0 i.toNat) := ia_12 h0 (by omega)
      simp (disch := first | omega | simp) only [u129_25, u129_26, u129_27, u129_28, u129_29, u129_32, u129_33, u129_35, u129_36, u129_38, al_12, hz, z0, Li_s, Lr_s, Ll_s, On_s, lget, lset, clr_i, clr_r, clr_n, Kc_i, Kc_v, Kc_x, true_and, and_true, List.length_cons, List.length_nil, nlg, isLn, List.all_cons, List.all_nil, Bool.and_true, Bool.not_false, Nat.zero_le, Nat.reduceAdd, Nat.reduceLeDiff, ↓reduceIte, Int.reduceLT, Int.reduceLE, Int.reduceAdd, Int.reduceSub, Int.reduceMul, Int.reduceNeg, Int.reduceToNat, Int.reduceEq, not_true_eq_false, not_false_eq_true, Int.toNat_zero, true_or, or_true]
      rw [if_neg (by omega)]
      obtain ⟨k, hk, ek⟩ := and15 (σ 12 0 i.toNat)
      rw [u129_39, ek, sw_to k hk]
      simp only [On_s, Sum.elim_inl]
      have kon : Kon d i σ (fun rr σ' => rr = .inl (some (vi 1)) ∧ σ 15 0 0 ≤ σ' 15 0 0 ∧ σ' 15 0 0 ≤ σ 15 0 0 + ((r + 1 : Nat) : Int)) := by
        intro σ1 f1 mi1 n1 C1 W1 L1 y5 y6 hI1 e12 hc
        have hs1 : Sc σ1 N := by unfold Sc; rw [e12]; exact hs
        simp (disch := first | omega | simp) only [u129_920, u129_923, Li_s, Lr_s, Ll_s, On_s, lget, lset, clr_i, clr_r, clr_n, Kc_i, Kc_v, Kc_x, true_and, and_true, List.length_cons, List.length_nil, nlg, isLn, List.all_cons, List.all_nil, Bool.and_true, Bool.not_false, Nat.zero_le, Nat.reduceAdd, Nat.reduceLeDiff, ↓reduceIte, Int.reduceLT, Int.reduceLE, Int.reduceAdd, Int.reduceSub, Int.reduceMul, Int.reduceNeg, Int.reduceToNat, Int.reduceEq, not_true_eq_false, not_false_eq_true, Int.toNat_zero, true_or, or_true]
        exact (ih hN hI1 hs1 (by omega) (by omega) (by omega)).mono (fun rr σ2 hq => ⟨hq.1, by omega, by omega⟩)
      match k, hk with
      | 0, _ => exact lw_0 hI hs h0 g kon
      | 1, _ => exact lw_1 hI hs h0 g kon
      | 2, _ => exact lw_2 hI hs h0 g kon
      | 3, _ => exact lw_3 hI hs h0 g kon
      | 4, _ => exact lw_4 hI hs h0 g kon
      | 5, _ => exact lw_5 hI hs h0 g kon
      | 6, _ => exact lw_6 hI hs h0 g kon
      | 7, _ => exact lw_7 hI hs h0 g kon
      | 8, _ => exact lw_8 hI hs h0 g kon
      | 9, _ => exact lw_9 hI hs h0 g kon
      | 10, _ => exact lw_10 hI hs h0 g kon
      | 11, _ => exact lw_11 hI hs h0 g kon
      | 12, _ => exact lw_12 hI hs h0 g kon
      | 13, _ => exact kon σ f mi n C W L _ _ hI rfl (by omega)
      | 14, _ => exact kon σ f mi n C W L _ _ hI rfl (by omega)
      | 15, _ => exact kon σ f mi n C W L _ _ hI rfl (by omega)
      | k + 16, h => exact absurd h (by omega)
    · simp (disch := first | omega | simp) only [u129_25, u129_26, u129_27, u129_28, u129_29, u129_32, u129_33, u129_35, u129_36, u129_38, al_12, hz, Li_s, Lr_s, Ll_s, On_s, lget, lset, clr_i, clr_r, clr_n, Kc_i, Kc_v, Kc_x, true_and, and_true, List.length_cons, List.length_nil, nlg, isLn, List.all_cons, List.all_nil, Bool.and_true, Bool.not_false, Nat.zero_le, Nat.reduceAdd, Nat.reduceLeDiff, ↓reduceIte, Int.reduceLT, Int.reduceLE, Int.reduceAdd, Int.reduceSub, Int.reduceMul, Int.reduceNeg, Int.reduceToNat, Int.reduceEq, not_true_eq_false, not_false_eq_true, Int.toNat_zero, true_or, or_true]
      rw [if_pos (by omega)]
      simp (disch := first | omega | simp) only [u129_920, u129_923, u129_926, u129_927, Li_s, Lr_s, Ll_s, On_s, lget, lset, clr_i, clr_r, clr_n, Kc_i, Kc_v, Kc_x, true_and, and_true, List.length_cons, List.length_nil, nlg, isLn, List.all_cons, List.all_nil, Bool.and_true, Bool.not_false, Nat.zero_le, Nat.reduceAdd, Nat.reduceLeDiff, ↓reduceIte, Int.reduceLT, Int.reduceLE, Int.reduceAdd, Int.reduceSub, Int.reduceMul, Int.reduceNeg, Int.reduceToNat, Int.reduceEq, not_true_eq_false, not_false_eq_true, Int.toNat_zero, true_or, or_true]
      omega
/-- from the loop's start: an execution of the machine that answers true -/
theorem lw_ex (hN : N ≤ 2560) (hI : LI σ f mi n C W L) (hs : Sc σ N) (h15 : σ 15 0 0 = 0) : ∃ (m : Nat) (σ' : Sg), ex m (d + 8) 129 20 [some (vr 12 0), some (vr 8 0), some (vr 9 0), some (vr 14 0), none, none, none] [] σ = some (.inl (some (vi 1)), σ') ∧ σ' 15 0 0 ≤ 512 := by
  have h : Wx (d + 8) 129 20 [some (vr 12 0), some (vr 8 0), some (vr 9 0), some (vr 14 0), none, none, none] [] σ (fun rr σ' => rr = .inl (some (vi 1)) ∧ σ 15 0 0 ≤ σ' 15 0 0 ∧ σ' 15 0 0 ≤ σ 15 0 0 + (512 : Nat)) := by
    simp (disch := first | omega | simp) only [u129_20, u129_21, Li_s, Lr_s, Ll_s, On_s, lget, lset, clr_i, clr_r, clr_n, Kc_i, Kc_v, Kc_x, true_and, and_true, List.length_cons, List.length_nil, nlg, isLn, List.all_cons, List.all_nil, Bool.and_true, Bool.not_false, Nat.zero_le, Nat.reduceAdd, Nat.reduceLeDiff, ↓reduceIte, Int.reduceLT, Int.reduceLE, Int.reduceAdd, Int.reduceSub, Int.reduceMul, Int.reduceNeg, Int.reduceToNat, Int.reduceEq, not_true_eq_false, not_false_eq_true, Int.toNat_zero, true_or, or_true]
    exact lw_loop 512 (by omega) hI hs (by omega) (by omega) (by omega)
  obtain ⟨m, rr, σ', he, hq⟩ := h
  obtain ⟨rfl, h1, h2⟩ := hq
  exact ⟨m, σ', he, by omega⟩
end LO
