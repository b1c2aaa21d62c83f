/-! KEYS: the class's side -/
/-- one array of the memory is another -/
def row (σ : Sg) (g j : Nat) (v : Nat → Int) : Sg := fun g' j' k' => if g' = g ∧ j' = j then v k' else σ g' j' k'
def vup (v : Nat → Int) (k : Nat) (z : Int) : Nat → Int := fun k' => if k' = k then z else v k'
theorem row_up {σ : Sg} {g j k : Nat} {v : Nat → Int} {z : Int} : up (row σ g j v) g j k z = row σ g j (vup v k z) := by
  funext g' j' k'
  simp only [up, row, vup]
  by_cases h : g' = g ∧ j' = j
  · obtain ⟨rfl, rfl⟩ := h
    simp
  · rw [if_neg h, if_neg h, if_neg (fun q => h ⟨q.1, q.2.1⟩)]
theorem row_self {σ : Sg} {g j : Nat} : row σ g j (σ g j) = σ := by
  funext g' j' k'
  simp only [row]
  by_cases h : g' = g ∧ j' = j
  · obtain ⟨rfl, rfl⟩ := h
    simp
  · rw [if_neg h]
theorem row_s {σ : Sg} {g j k : Nat} {v : Nat → Int} : row σ g j v g j k = v k := by simp [row]
theorem row_o {σ : Sg} {g j g' j' k : Nat} {v : Nat → Int} (h : ¬ (g' = g ∧ j' = j)) : row σ g j v g' j' k = σ g' j' k := by simp only [row]; rw [if_neg h]
theorem vup_s {v : Nat → Int} {k : Nat} {z : Int} : vup v k z k = z := by simp [vup]
theorem vup_o {v : Nat → Int} {k k' : Nat} {z : Int} (h : k' ≠ k) : vup v k z k' = v k' := by simp [vup, h]
theorem sV_bas (k : Nat) : sV 0 k = bas k := rfl
theorem sV_shp (k : Nat) : sV 3 k = shp k := rfl
/-- where a letter stands among the sharps -/
def shi (l : Nat) : Nat := ([1, 3, 5, 0, 2, 4, 6] : List Nat).getD l 0
theorem shi_shp : ∀ i, i < 7 → shi (shp i).toNat = i := by decide
theorem shp_shi : ∀ l, l < 7 → (shp (shi l)).toNat = l := by decide
theorem shi_lt : ∀ l, l < 7 → shi l < 7 := by decide
theorem fla_shp : ∀ i, i < 7 → sV 4 i = shp (6 - i) := by decide
theorem kAl_dec : ∀ a : Nat, a < 15 → ∀ l : Nat, l < 7 → kAl ((a : Int) - 7) (l : Int) = (if (6 - (shi l : Int)) < -((a : Int) - 7) then -1 else if (shi l : Int) < (a : Int) - 7 then 1 else 0) := by decide +kernel
theorem kAl_by {f : Int} (hf : -7 ≤ f ∧ f ≤ 7) {l : Nat} (hl : l < 7) : kAl f l = (if (6 - (shi l : Int)) < -f then -1 else if (shi l : Int) < f then 1 else 0) := by
  have h := kAl_dec (f + 7).toNat (by omega) l hl
  rw [show (((f + 7).toNat : Int) - 7) = f by omega] at h
  exact h
section KW
variable {d : Nat} {σ : Sg} {Q : Rs → Sg → Prop} {f mi : Int}
theorem l_kw1 (hf : -7 ≤ f ∧ f ≤ 7) (k : ∀ v, (∀ l, l < 7 → v l = 0) → Wx d 18 25 [some (vr 8 1), some (vi f), some (vi mi), some (vi 7)] [] (row σ 8 2 v) Q) : ∀ (n : Nat) (i : Int) (v : Nat → Int), 0 ≤ i → i + n = 7 → (∀ l, l < 7 → (shi l : Int) < i → v l = 0) → Wx d 18 2 [some (vr 8 1), some (vi f), some (vi mi), some (vi i)] [] (row σ 8 2 v) Q := by
  intro n
  induction n with
  | zero =>
    intro i v h0 h1 hv
    obtain rfl : i = 7 := by omega
    rw [u18_2]
    simp (disch := omega) only [u18_0, u18_1, u18_3, u18_5, u18_8, u18_9, u18_12, u18_15, u18_16, u18_17, u18_18, u18_19, u18_22, u18_26, u18_27, u18_28, u18_30, u18_33, u18_34, u18_35, u18_38, u18_39, u18_42, u18_45, u18_46, u18_47, u18_48, u18_49, u18_52, u18_55, u18_56, u18_57, u18_58, u18_60, u18_63, u18_64, u18_65, u18_66, u18_69, u18_70, u18_73, u18_76, u18_77, u18_78, u18_79, u18_80, u18_83, u18_86, u18_87, u18_88, u18_89, u18_90, u18_93, u18_94, u18_97, u18_98, u18_99, u18_101, u18_104, u18_105, u18_106, u18_109, u18_110, u18_111, u18_112, u18_115, u18_116, u18_117, u18_118, u18_120, u18_121, u18_123, u18_126, u18_129, o_8_0, fv_8_0_0, fv_8_0_1, fv_8_0_2, fv_8_0_3, fv_8_0_4, rf_8_0_4, o_8_1, fv_8_1_0, fv_8_1_1, rf_8_1_1, o_8_4, fv_8_4_0, fv_8_4_1, fv_8_4_2, fv_8_4_3, fv_8_4_4, fv_8_4_5, fv_8_4_6, rf_8_4_6, o_8_5, fv_8_5_0, fv_8_5_1, fv_8_5_2, fv_8_5_3, fv_8_5_4, rf_8_5_4, fv_8_5_5, rf_8_5_5, o_8_15, fv_8_15_0, fv_8_15_1, fv_8_15_2, fv_8_15_3, fv_8_15_4, rf_8_15_4, o_8_16, fv_8_16_0, fv_8_16_1, fv_8_16_2, fv_8_16_3, fv_8_16_4, rf_8_16_4, fv_8_16_5, rf_8_16_5, ia_8_2, is_8_2, ia_8_6, is_8_6, ia_8_7, is_8_7, ia_8_8, is_8_8, ia_8_9, is_8_9, ia_8_14, is_8_14, ia_8_17, is_8_17, ia_8_18, is_8_18, ia_8_19, is_8_19, ia_8_20, is_8_20, ia_8_21, is_8_21, ia_8_22, is_8_22, ia_8_23, is_8_23, iz_8_12, iz_8_13, aa_3, ar_3, aa_10, ar_10, aa_11, ar_11, ia_10, is_10, ia_11, is_11, it_0, al_0, it_1, al_1, it_2, al_2, it_3, al_3, it_4, al_4, it_5, al_5, it_6, al_6, Li_s, Lr_s, Ll_s, On_s, lget, lset, clr_i, clr_r, clr_n, Kc_i, Kc_v, Kc_x, true_and, and_true, List.length_cons, List.length_nil, nlg, isLn, List.all_cons, List.all_nil, Bool.and_true, Bool.not_false, Nat.zero_le, Nat.reduceAdd, Nat.reduceLeDiff]
    exact k v (fun l hl => hv l hl (by have := shi_lt l hl; omega))
  | succ n ih =>
    intro i v h0 h1 hv
    have h4 := shp_in i.toNat (by omega)
    have h5 := shi_shp i.toNat (by omega)
    rw [u18_2]
    simp (disch := omega) only [u18_0, u18_1, u18_3, u18_5, u18_8, u18_9, u18_12, u18_15, u18_16, u18_17, u18_18, u18_19, u18_22, u18_26, u18_27, u18_28, u18_30, u18_33, u18_34, u18_35, u18_38, u18_39, u18_42, u18_45, u18_46, u18_47, u18_48, u18_49, u18_52, u18_55, u18_56, u18_57, u18_58, u18_60, u18_63, u18_64, u18_65, u18_66, u18_69, u18_70, u18_73, u18_76, u18_77, u18_78, u18_79, u18_80, u18_83, u18_86, u18_87, u18_88, u18_89, u18_90, u18_93, u18_94, u18_97, u18_98, u18_99, u18_101, u18_104, u18_105, u18_106, u18_109, u18_110, u18_111, u18_112, u18_115, u18_116, u18_117, u18_118, u18_120, u18_121, u18_123, u18_126, u18_129, o_8_0, fv_8_0_0, fv_8_0_1, fv_8_0_2, fv_8_0_3, fv_8_0_4, rf_8_0_4, o_8_1, fv_8_1_0, fv_8_1_1, rf_8_1_1, o_8_4, fv_8_4_0, fv_8_4_1, fv_8_4_2, fv_8_4_3, fv_8_4_4, fv_8_4_5, fv_8_4_6, rf_8_4_6, o_8_5, fv_8_5_0, fv_8_5_1, fv_8_5_2, fv_8_5_3, fv_8_5_4, rf_8_5_4, fv_8_5_5, rf_8_5_5, o_8_15, fv_8_15_0, fv_8_15_1, fv_8_15_2, fv_8_15_3, fv_8_15_4, rf_8_15_4, o_8_16, fv_8_16_0, fv_8_16_1, fv_8_16_2, fv_8_16_3, fv_8_16_4, rf_8_16_4, fv_8_16_5, rf_8_16_5, ia_8_2, is_8_2, ia_8_6, is_8_6, ia_8_7, is_8_7, ia_8_8, is_8_8, ia_8_9, is_8_9, ia_8_14, is_8_14, ia_8_17, is_8_17, ia_8_18, is_8_18, ia_8_19, is_8_19, ia_8_20, is_8_20, ia_8_21, is_8_21, ia_8_22, is_8_22, ia_8_23, is_8_23, iz_8_12, iz_8_13, aa_3, ar_3, aa_10, ar_10, aa_11, ar_11, ia_10, is_10, ia_11, is_11, it_0, al_0, it_1, al_1, it_2, al_2, it_3, al_3, it_4, al_4, it_5, al_5, it_6, al_6, sV_shp, Li_s, Lr_s, Ll_s, On_s, lget, lset, clr_i, clr_r, clr_n, Kc_i, Kc_v, Kc_x, true_and, and_true, List.length_cons, List.length_nil, nlg, isLn, List.all_cons, List.all_nil, Bool.and_true, Bool.not_false, Nat.zero_le, Nat.reduceAdd, Nat.reduceLeDiff]
    rw [if_neg (by omega), row_up]
    refine ih (i + 1) _ (by omega) (by omega) (fun l hl hs => ?_)
    by_cases e : l = (shp i.toNat).toNat
    · rw [e, vup_s]
    · rw [vup_o e]
      refine hv l hl ?_
      have : shi l ≠ i.toNat := fun q => e (by rw [← q, shp_shi l hl])
      omega
theorem l_kw2 (hf : -7 ≤ f ∧ f ≤ 7) (k : ∀ (i : Int) v, (∀ l, l < 7 → v l = if (shi l : Int) < f then 1 else 0) → Wx d 18 55 [some (vr 8 1), some (vi f), some (vi mi), some (vi i)] [] (row σ 8 2 v) Q) : ∀ (n : Nat) (i : Int) (v : Nat → Int), 0 ≤ i → i + n = 7 → i ≤ max f 0 → (∀ l, l < 7 → v l = if (shi l : Int) < i then 1 else 0) → Wx d 18 27 [some (vr 8 1), some (vi f), some (vi mi), some (vi i)] [] (row σ 8 2 v) Q := by
  intro n
  induction n with
  | zero =>
    intro i v h0 h1 hm hv
    rw [u18_27]
    simp (disch := omega) only [u18_0, u18_1, u18_2, u18_3, u18_5, u18_8, u18_9, u18_12, u18_15, u18_16, u18_17, u18_18, u18_19, u18_22, u18_25, u18_26, u18_28, u18_30, u18_33, u18_34, u18_35, u18_38, u18_39, u18_42, u18_45, u18_46, u18_47, u18_48, u18_49, u18_52, u18_56, u18_57, u18_58, u18_60, u18_63, u18_64, u18_65, u18_66, u18_69, u18_70, u18_73, u18_76, u18_77, u18_78, u18_79, u18_80, u18_83, u18_86, u18_87, u18_88, u18_89, u18_90, u18_93, u18_94, u18_97, u18_98, u18_99, u18_101, u18_104, u18_105, u18_106, u18_109, u18_110, u18_111, u18_112, u18_115, u18_116, u18_117, u18_118, u18_120, u18_121, u18_123, u18_126, u18_129, o_8_0, fv_8_0_0, fv_8_0_1, fv_8_0_2, fv_8_0_3, fv_8_0_4, rf_8_0_4, o_8_1, fv_8_1_0, fv_8_1_1, rf_8_1_1, o_8_4, fv_8_4_0, fv_8_4_1, fv_8_4_2, fv_8_4_3, fv_8_4_4, fv_8_4_5, fv_8_4_6, rf_8_4_6, o_8_5, fv_8_5_0, fv_8_5_1, fv_8_5_2, fv_8_5_3, fv_8_5_4, rf_8_5_4, fv_8_5_5, rf_8_5_5, o_8_15, fv_8_15_0, fv_8_15_1, fv_8_15_2, fv_8_15_3, fv_8_15_4, rf_8_15_4, o_8_16, fv_8_16_0, fv_8_16_1, fv_8_16_2, fv_8_16_3, fv_8_16_4, rf_8_16_4, fv_8_16_5, rf_8_16_5, ia_8_2, is_8_2, ia_8_6, is_8_6, ia_8_7, is_8_7, ia_8_8, is_8_8, ia_8_9, is_8_9, ia_8_14, is_8_14, ia_8_17, is_8_17, ia_8_18, is_8_18, ia_8_19, is_8_19, ia_8_20, is_8_20, ia_8_21, is_8_21, ia_8_22, is_8_22, ia_8_23, is_8_23, iz_8_12, iz_8_13, aa_3, ar_3, aa_10, ar_10, aa_11, ar_11, ia_10, is_10, ia_11, is_11, it_0, al_0, it_1, al_1, it_2, al_2, it_3, al_3, it_4, al_4, it_5, al_5, it_6, al_6, Li_s, Lr_s, Ll_s, On_s, lget, lset, clr_i, clr_r, clr_n, Kc_i, Kc_v, Kc_x, true_and, and_true, List.length_cons, List.length_nil, nlg, isLn, List.all_cons, List.all_nil, Bool.and_true, Bool.not_false, Nat.zero_le, Nat.reduceAdd, Nat.reduceLeDiff]
    rw [if_pos (by omega)]
    refine k i v (fun l hl => ?_)
    rw [hv l hl, show i = f by omega]
  | succ n ih =>
    intro i v h0 h1 hm hv
    have h4 := shp_in i.toNat (by omega)
    have h5 := shi_shp i.toNat (by omega)
    rw [u18_27]
    simp (disch := omega) only [u18_0, u18_1, u18_2, u18_3, u18_5, u18_8, u18_9, u18_12, u18_15, u18_16, u18_17, u18_18, u18_19, u18_22, u18_25, u18_26, u18_28, u18_30, u18_33, u18_34, u18_35, u18_38, u18_39, u18_42, u18_45, u18_46, u18_47, u18_48, u18_49, u18_52, u18_56, u18_57, u18_58, u18_60, u18_63, u18_64, u18_65, u18_66, u18_69, u18_70, u18_73, u18_76, u18_77, u18_78, u18_79, u18_80, u18_83, u18_86, u18_87, u18_88, u18_89, u18_90, u18_93, u18_94, u18_97, u18_98, u18_99, u18_101, u18_104, u18_105, u18_106, u18_109, u18_110, u18_111, u18_112, u18_115, u18_116, u18_117, u18_118, u18_120, u18_121, u18_123, u18_126, u18_129, o_8_0, fv_8_0_0, fv_8_0_1, fv_8_0_2, fv_8_0_3, fv_8_0_4, rf_8_0_4, o_8_1, fv_8_1_0, fv_8_1_1, rf_8_1_1, o_8_4, fv_8_4_0, fv_8_4_1, fv_8_4_2, fv_8_4_3, fv_8_4_4, fv_8_4_5, fv_8_4_6, rf_8_4_6, o_8_5, fv_8_5_0, fv_8_5_1, fv_8_5_2, fv_8_5_3, fv_8_5_4, rf_8_5_4, fv_8_5_5, rf_8_5_5, o_8_15, fv_8_15_0, fv_8_15_1, fv_8_15_2, fv_8_15_3, fv_8_15_4, rf_8_15_4, o_8_16, fv_8_16_0, fv_8_16_1, fv_8_16_2, fv_8_16_3, fv_8_16_4, rf_8_16_4, fv_8_16_5, rf_8_16_5, ia_8_2, is_8_2, ia_8_6, is_8_6, ia_8_7, is_8_7, ia_8_8, is_8_8, ia_8_9, is_8_9, ia_8_14, is_8_14, ia_8_17, is_8_17, ia_8_18, is_8_18, ia_8_19, is_8_19, ia_8_20, is_8_20, ia_8_21, is_8_21, ia_8_22, is_8_22, ia_8_23, is_8_23, iz_8_12, iz_8_13, aa_3, ar_3, aa_10, ar_10, aa_11, ar_11, ia_10, is_10, ia_11, is_11, it_0, al_0, it_1, al_1, it_2, al_2, it_3, al_3, it_4, al_4, it_5, al_5, it_6, al_6, sV_shp, Li_s, Lr_s, Ll_s, On_s, lget, lset, clr_i, clr_r, clr_n, Kc_i, Kc_v, Kc_x, true_and, and_true, List.length_cons, List.length_nil, nlg, isLn, List.all_cons, List.all_nil, Bool.and_true, Bool.not_false, Nat.zero_le, Nat.reduceAdd, Nat.reduceLeDiff]
    rw [if_neg (by omega)]
    by_cases hc : f ≤ i
    · rw [if_pos hc]
      refine k i v (fun l hl => ?_)
      rw [hv l hl]
      by_cases h6 : (shi l : Int) < f
      · rw [if_pos h6, if_pos (by omega)]
      · rw [if_neg h6, if_neg (by omega)]
    · rw [if_neg hc, row_up]
      refine ih (i + 1) _ (by omega) (by omega) (by omega) (fun l hl => ?_)
      by_cases e : l = (shp i.toNat).toNat
      · rw [e, vup_s, h5, if_pos (by omega)]
      · rw [vup_o e, hv l hl]
        have : shi l ≠ i.toNat := fun q => e (by rw [← q, shp_shi l hl])
        by_cases h6 : (shi l : Int) < i
        · rw [if_pos h6, if_pos (by omega)]
        · rw [if_neg h6, if_neg (by omega)]
theorem l_kw3 (hf : -7 ≤ f ∧ f ≤ 7) (k : ∀ (i : Int) v, (∀ l : Nat, l < 7 → v l = kAl f l) → Wx d 18 86 [some (vr 8 1), some (vi f), some (vi mi), some (vi i)] [] (row σ 8 2 v) Q) : ∀ (n : Nat) (i : Int) (v : Nat → Int), 0 ≤ i → i + n = 7 → i ≤ max (-f) 0 → (∀ l, l < 7 → v l = if 6 - (shi l : Int) < i then -1 else if (shi l : Int) < f then 1 else 0) → Wx d 18 57 [some (vr 8 1), some (vi f), some (vi mi), some (vi i)] [] (row σ 8 2 v) Q := by
  intro n
  induction n with
  | zero =>
    intro i v h0 h1 hm hv
    rw [u18_57]
    simp (disch := omega) only [u18_0, u18_1, u18_2, u18_3, u18_5, u18_8, u18_9, u18_12, u18_15, u18_16, u18_17, u18_18, u18_19, u18_22, u18_25, u18_26, u18_27, u18_28, u18_30, u18_33, u18_34, u18_35, u18_38, u18_39, u18_42, u18_45, u18_46, u18_47, u18_48, u18_49, u18_52, u18_55, u18_56, u18_58, u18_60, u18_63, u18_64, u18_65, u18_66, u18_69, u18_70, u18_73, u18_76, u18_77, u18_78, u18_79, u18_80, u18_83, u18_87, u18_88, u18_89, u18_90, u18_93, u18_94, u18_97, u18_98, u18_99, u18_101, u18_104, u18_105, u18_106, u18_109, u18_110, u18_111, u18_112, u18_115, u18_116, u18_117, u18_118, u18_120, u18_121, u18_123, u18_126, u18_129, o_8_0, fv_8_0_0, fv_8_0_1, fv_8_0_2, fv_8_0_3, fv_8_0_4, rf_8_0_4, o_8_1, fv_8_1_0, fv_8_1_1, rf_8_1_1, o_8_4, fv_8_4_0, fv_8_4_1, fv_8_4_2, fv_8_4_3, fv_8_4_4, fv_8_4_5, fv_8_4_6, rf_8_4_6, o_8_5, fv_8_5_0, fv_8_5_1, fv_8_5_2, fv_8_5_3, fv_8_5_4, rf_8_5_4, fv_8_5_5, rf_8_5_5, o_8_15, fv_8_15_0, fv_8_15_1, fv_8_15_2, fv_8_15_3, fv_8_15_4, rf_8_15_4, o_8_16, fv_8_16_0, fv_8_16_1, fv_8_16_2, fv_8_16_3, fv_8_16_4, rf_8_16_4, fv_8_16_5, rf_8_16_5, ia_8_2, is_8_2, ia_8_6, is_8_6, ia_8_7, is_8_7, ia_8_8, is_8_8, ia_8_9, is_8_9, ia_8_14, is_8_14, ia_8_17, is_8_17, ia_8_18, is_8_18, ia_8_19, is_8_19, ia_8_20, is_8_20, ia_8_21, is_8_21, ia_8_22, is_8_22, ia_8_23, is_8_23, iz_8_12, iz_8_13, aa_3, ar_3, aa_10, ar_10, aa_11, ar_11, ia_10, is_10, ia_11, is_11, it_0, al_0, it_1, al_1, it_2, al_2, it_3, al_3, it_4, al_4, it_5, al_5, it_6, al_6, Li_s, Lr_s, Ll_s, On_s, lget, lset, clr_i, clr_r, clr_n, Kc_i, Kc_v, Kc_x, true_and, and_true, List.length_cons, List.length_nil, nlg, isLn, List.all_cons, List.all_nil, Bool.and_true, Bool.not_false, Nat.zero_le, Nat.reduceAdd, Nat.reduceLeDiff]
    rw [if_pos (by omega)]
    refine k i v (fun l hl => ?_)
    rw [hv l hl, kAl_by hf hl, show i = -f by omega]
  | succ n ih =>
    intro i v h0 h1 hm hv
    have h3 := fla_shp i.toNat (by omega)
    have h4 := shp_in (6 - i.toNat) (by omega)
    have h5 := shi_shp (6 - i.toNat) (by omega)
    rw [u18_57]
    simp (disch := omega) only [u18_0, u18_1, u18_2, u18_3, u18_5, u18_8, u18_9, u18_12, u18_15, u18_16, u18_17, u18_18, u18_19, u18_22, u18_25, u18_26, u18_27, u18_28, u18_30, u18_33, u18_34, u18_35, u18_38, u18_39, u18_42, u18_45, u18_46, u18_47, u18_48, u18_49, u18_52, u18_55, u18_56, u18_58, u18_60, u18_63, u18_64, u18_65, u18_66, u18_69, u18_70, u18_73, u18_76, u18_77, u18_78, u18_79, u18_80, u18_83, u18_87, u18_88, u18_89, u18_90, u18_93, u18_94, u18_97, u18_98, u18_99, u18_101, u18_104, u18_105, u18_106, u18_109, u18_110, u18_111, u18_112, u18_115, u18_116, u18_117, u18_118, u18_120, u18_121, u18_123, u18_126, u18_129, o_8_0, fv_8_0_0, fv_8_0_1, fv_8_0_2, fv_8_0_3, fv_8_0_4, rf_8_0_4, o_8_1, fv_8_1_0, fv_8_1_1, rf_8_1_1, o_8_4, fv_8_4_0, fv_8_4_1, fv_8_4_2, fv_8_4_3, fv_8_4_4, fv_8_4_5, fv_8_4_6, rf_8_4_6, o_8_5, fv_8_5_0, fv_8_5_1, fv_8_5_2, fv_8_5_3, fv_8_5_4, rf_8_5_4, fv_8_5_5, rf_8_5_5, o_8_15, fv_8_15_0, fv_8_15_1, fv_8_15_2, fv_8_15_3, fv_8_15_4, rf_8_15_4, o_8_16, fv_8_16_0, fv_8_16_1, fv_8_16_2, fv_8_16_3, fv_8_16_4, rf_8_16_4, fv_8_16_5, rf_8_16_5, ia_8_2, is_8_2, ia_8_6, is_8_6, ia_8_7, is_8_7, ia_8_8, is_8_8, ia_8_9, is_8_9, ia_8_14, is_8_14, ia_8_17, is_8_17, ia_8_18, is_8_18, ia_8_19, is_8_19, ia_8_20, is_8_20, ia_8_21, is_8_21, ia_8_22, is_8_22, ia_8_23, is_8_23, iz_8_12, iz_8_13, aa_3, ar_3, aa_10, ar_10, aa_11, ar_11, ia_10, is_10, ia_11, is_11, it_0, al_0, it_1, al_1, it_2, al_2, it_3, al_3, it_4, al_4, it_5, al_5, it_6, al_6, h3, Li_s, Lr_s, Ll_s, On_s, lget, lset, clr_i, clr_r, clr_n, Kc_i, Kc_v, Kc_x, true_and, and_true, List.length_cons, List.length_nil, nlg, isLn, List.all_cons, List.all_nil, Bool.and_true, Bool.not_false, Nat.zero_le, Nat.reduceAdd, Nat.reduceLeDiff]
    rw [if_neg (by omega)]
    by_cases hc : -f ≤ i
    · rw [if_pos hc]
      refine k i v (fun l hl => ?_)
      rw [hv l hl, kAl_by hf hl]
      have := shi_lt l hl
      by_cases h6 : 6 - (shi l : Int) < -f
      · rw [if_pos h6, if_pos (by omega)]
      · rw [if_neg h6, if_neg (by omega)]
    · rw [if_neg hc, row_up]
      refine ih (i + 1) _ (by omega) (by omega) (by omega) (fun l hl => ?_)
      by_cases e : l = (shp (6 - i.toNat)).toNat
      · rw [e, vup_s, h5, if_pos (by omega)]
      · rw [vup_o e, hv l hl]
        have : shi l ≠ 6 - i.toNat := fun q => e (by rw [← q, shp_shi l hl])
        have := shi_lt l hl
        by_cases h6 : 6 - (shi l : Int) < i
        · rw [if_pos h6, if_pos (by omega)]
        · rw [if_neg h6, if_neg (show ¬ 6 - (shi l : Int) < i + 1 by omega)]
/-- Key.write: the alterations and the leading class of the key -/
theorem w_keyWrite (hf : -7 ≤ f ∧ f ≤ 7) (hm : mi = 0 ∨ mi = 1) (k : ∀ v, (∀ l : Nat, l < 7 → v l = kAl f l) → Q (.inl none) (up (row σ 8 2 v) 8 1 1 (led f mi))) : Wm (d + 1) 18 [vr 8 1, vi f, vi mi] σ Q := by
  rw [e18, u18_0, u18_1]
  simp only [lset, clr_i, clr_r, clr_n]
  rw [← row_self (σ := σ) (g := 8) (j := 2)]
  refine l_kw1 hf (fun v1 h1 => ?_) 7 0 _ (by omega) (by omega) (fun l hl h => by omega)
  simp (disch := omega) only [u18_0, u18_1, u18_2, u18_3, u18_5, u18_8, u18_9, u18_12, u18_15, u18_16, u18_17, u18_18, u18_19, u18_22, u18_25, u18_26, u18_28, u18_30, u18_33, u18_34, u18_35, u18_38, u18_39, u18_42, u18_45, u18_46, u18_47, u18_48, u18_49, u18_52, u18_55, u18_56, u18_58, u18_60, u18_63, u18_64, u18_65, u18_66, u18_69, u18_70, u18_73, u18_76, u18_77, u18_78, u18_79, u18_80, u18_83, u18_87, u18_88, u18_89, u18_90, u18_93, u18_94, u18_97, u18_98, u18_99, u18_101, u18_104, u18_105, u18_106, u18_109, u18_110, u18_111, u18_112, u18_115, u18_116, u18_117, u18_118, u18_120, u18_121, u18_123, u18_126, u18_129, Li_s, Lr_s, Ll_s, On_s, lget, lset, clr_i, clr_r, clr_n, Kc_i, Kc_v, Kc_x, true_and, and_true, List.length_cons, List.length_nil, nlg, isLn, List.all_cons, List.all_nil, Bool.and_true, Bool.not_false, Nat.zero_le, Nat.reduceAdd, Nat.reduceLeDiff]
  refine l_kw2 hf (fun i2 v2 h2 => ?_) 7 0 v1 (by omega) (by omega) (by omega) (fun l hl => by rw [h1 l hl, if_neg (by omega)])
  simp (disch := omega) only [u18_0, u18_1, u18_2, u18_3, u18_5, u18_8, u18_9, u18_12, u18_15, u18_16, u18_17, u18_18, u18_19, u18_22, u18_25, u18_26, u18_28, u18_30, u18_33, u18_34, u18_35, u18_38, u18_39, u18_42, u18_45, u18_46, u18_47, u18_48, u18_49, u18_52, u18_55, u18_56, u18_58, u18_60, u18_63, u18_64, u18_65, u18_66, u18_69, u18_70, u18_73, u18_76, u18_77, u18_78, u18_79, u18_80, u18_83, u18_87, u18_88, u18_89, u18_90, u18_93, u18_94, u18_97, u18_98, u18_99, u18_101, u18_104, u18_105, u18_106, u18_109, u18_110, u18_111, u18_112, u18_115, u18_116, u18_117, u18_118, u18_120, u18_121, u18_123, u18_126, u18_129, Li_s, Lr_s, Ll_s, On_s, lget, lset, clr_i, clr_r, clr_n, Kc_i, Kc_v, Kc_x, true_and, and_true, List.length_cons, List.length_nil, nlg, isLn, List.all_cons, List.all_nil, Bool.and_true, Bool.not_false, Nat.zero_le, Nat.reduceAdd, Nat.reduceLeDiff]
  refine l_kw3 hf (fun i3 v3 h3 => ?_) 7 0 v2 (by omega) (by omega) (by omega) (fun l hl => by have := shi_lt l hl; rw [h2 l hl, if_neg (show ¬ 6 - (shi l : Int) < 0 by omega)])
  have t1 := ton_in f mi
  have t2 := kAl_in f (ton f mi)
  have t3 := bas_in (ton f mi).toNat (by omega)
  have key : ∀ x : Int, x = (if mi = 0 then 0 else 5) → Wx (d + 1) 18 98 [some (vr 8 1), some (vi f), some (vi mi), some (vi i3)] [vi x, vi (4 * f)] (row σ 8 2 v3) Q := by
    intro x hx
    have hx2 : 0 ≤ x ∧ x ≤ 5 := by rw [hx]; split <;> omega
    have h6 := h3 (ton f mi).toNat (by omega)
    rw [show (((ton f mi).toNat : Nat) : Int) = ton f mi by omega] at h6
    simp (disch := omega) only [u18_0, u18_1, u18_2, u18_3, u18_5, u18_8, u18_9, u18_12, u18_15, u18_16, u18_17, u18_18, u18_19, u18_22, u18_25, u18_26, u18_28, u18_30, u18_33, u18_34, u18_35, u18_38, u18_39, u18_42, u18_45, u18_46, u18_47, u18_48, u18_49, u18_52, u18_55, u18_56, u18_58, u18_60, u18_63, u18_64, u18_65, u18_66, u18_69, u18_70, u18_73, u18_76, u18_77, u18_78, u18_79, u18_80, u18_83, u18_86, u18_87, u18_88, u18_89, u18_90, u18_93, u18_94, u18_97, u18_98, u18_99, u18_101, u18_104, u18_105, u18_106, u18_109, u18_110, u18_111, u18_112, u18_115, u18_116, u18_117, u18_118, u18_120, u18_121, u18_123, u18_126, u18_129, o_8_0, fv_8_0_0, fv_8_0_1, fv_8_0_2, fv_8_0_3, fv_8_0_4, rf_8_0_4, o_8_1, fv_8_1_0, fv_8_1_1, rf_8_1_1, o_8_4, fv_8_4_0, fv_8_4_1, fv_8_4_2, fv_8_4_3, fv_8_4_4, fv_8_4_5, fv_8_4_6, rf_8_4_6, o_8_5, fv_8_5_0, fv_8_5_1, fv_8_5_2, fv_8_5_3, fv_8_5_4, rf_8_5_4, fv_8_5_5, rf_8_5_5, o_8_15, fv_8_15_0, fv_8_15_1, fv_8_15_2, fv_8_15_3, fv_8_15_4, rf_8_15_4, o_8_16, fv_8_16_0, fv_8_16_1, fv_8_16_2, fv_8_16_3, fv_8_16_4, rf_8_16_4, fv_8_16_5, rf_8_16_5, ia_8_2, is_8_2, ia_8_6, is_8_6, ia_8_7, is_8_7, ia_8_8, is_8_8, ia_8_9, is_8_9, ia_8_14, is_8_14, ia_8_17, is_8_17, ia_8_18, is_8_18, ia_8_19, is_8_19, ia_8_20, is_8_20, ia_8_21, is_8_21, ia_8_22, is_8_22, ia_8_23, is_8_23, iz_8_12, iz_8_13, aa_3, ar_3, aa_10, ar_10, aa_11, ar_11, ia_10, is_10, ia_11, is_11, it_0, al_0, it_1, al_1, it_2, al_2, it_3, al_3, it_4, al_4, it_5, al_5, it_6, al_6, Li_s, Lr_s, Ll_s, On_s, lget, lset, clr_i, clr_r, clr_n, Kc_i, Kc_v, Kc_x, true_and, and_true, List.length_cons, List.length_nil, nlg, isLn, List.all_cons, List.all_nil, Bool.and_true, Bool.not_false, Nat.zero_le, Nat.reduceAdd, Nat.reduceLeDiff]
    rw [(r_floorMod (by omega) (by omega)).iff, show (4 * f + x) % 7 = ton f mi by rw [hx]; rfl]
    simp (disch := omega) only [u18_0, u18_1, u18_2, u18_3, u18_5, u18_8, u18_9, u18_12, u18_15, u18_16, u18_17, u18_18, u18_19, u18_22, u18_25, u18_26, u18_28, u18_30, u18_33, u18_34, u18_35, u18_38, u18_39, u18_42, u18_45, u18_46, u18_47, u18_48, u18_49, u18_52, u18_55, u18_56, u18_58, u18_60, u18_63, u18_64, u18_65, u18_66, u18_69, u18_70, u18_73, u18_76, u18_77, u18_78, u18_79, u18_80, u18_83, u18_86, u18_87, u18_88, u18_89, u18_90, u18_93, u18_94, u18_97, u18_98, u18_99, u18_101, u18_104, u18_105, u18_106, u18_109, u18_110, u18_111, u18_112, u18_115, u18_116, u18_117, u18_118, u18_120, u18_121, u18_123, u18_126, u18_129, o_8_0, fv_8_0_0, fv_8_0_1, fv_8_0_2, fv_8_0_3, fv_8_0_4, rf_8_0_4, o_8_1, fv_8_1_0, fv_8_1_1, rf_8_1_1, o_8_4, fv_8_4_0, fv_8_4_1, fv_8_4_2, fv_8_4_3, fv_8_4_4, fv_8_4_5, fv_8_4_6, rf_8_4_6, o_8_5, fv_8_5_0, fv_8_5_1, fv_8_5_2, fv_8_5_3, fv_8_5_4, rf_8_5_4, fv_8_5_5, rf_8_5_5, o_8_15, fv_8_15_0, fv_8_15_1, fv_8_15_2, fv_8_15_3, fv_8_15_4, rf_8_15_4, o_8_16, fv_8_16_0, fv_8_16_1, fv_8_16_2, fv_8_16_3, fv_8_16_4, rf_8_16_4, fv_8_16_5, rf_8_16_5, ia_8_2, is_8_2, ia_8_6, is_8_6, ia_8_7, is_8_7, ia_8_8, is_8_8, ia_8_9, is_8_9, ia_8_14, is_8_14, ia_8_17, is_8_17, ia_8_18, is_8_18, ia_8_19, is_8_19, ia_8_20, is_8_20, ia_8_21, is_8_21, ia_8_22, is_8_22, ia_8_23, is_8_23, iz_8_12, iz_8_13, aa_3, ar_3, aa_10, ar_10, aa_11, ar_11, ia_10, is_10, ia_11, is_11, it_0, al_0, it_1, al_1, it_2, al_2, it_3, al_3, it_4, al_4, it_5, al_5, it_6, al_6, sV_bas, row_s, h6, Li_s, Lr_s, Ll_s, On_s, lget, lset, clr_i, clr_r, clr_n, Kc_i, Kc_v, Kc_x, true_and, and_true, List.length_cons, List.length_nil, nlg, isLn, List.all_cons, List.all_nil, Bool.and_true, Bool.not_false, Nat.zero_le, Nat.reduceAdd, Nat.reduceLeDiff]
    rw [(r_floorMod (by omega) (by omega)).iff]
    simp (disch := omega) only [u18_0, u18_1, u18_2, u18_3, u18_5, u18_8, u18_9, u18_12, u18_15, u18_16, u18_17, u18_18, u18_19, u18_22, u18_25, u18_26, u18_28, u18_30, u18_33, u18_34, u18_35, u18_38, u18_39, u18_42, u18_45, u18_46, u18_47, u18_48, u18_49, u18_52, u18_55, u18_56, u18_58, u18_60, u18_63, u18_64, u18_65, u18_66, u18_69, u18_70, u18_73, u18_76, u18_77, u18_78, u18_79, u18_80, u18_83, u18_86, u18_87, u18_88, u18_89, u18_90, u18_93, u18_94, u18_97, u18_98, u18_99, u18_101, u18_104, u18_105, u18_106, u18_109, u18_110, u18_111, u18_112, u18_115, u18_116, u18_117, u18_118, u18_120, u18_121, u18_123, u18_126, u18_129, o_8_0, fv_8_0_0, fv_8_0_1, fv_8_0_2, fv_8_0_3, fv_8_0_4, rf_8_0_4, o_8_1, fv_8_1_0, fv_8_1_1, rf_8_1_1, o_8_4, fv_8_4_0, fv_8_4_1, fv_8_4_2, fv_8_4_3, fv_8_4_4, fv_8_4_5, fv_8_4_6, rf_8_4_6, o_8_5, fv_8_5_0, fv_8_5_1, fv_8_5_2, fv_8_5_3, fv_8_5_4, rf_8_5_4, fv_8_5_5, rf_8_5_5, o_8_15, fv_8_15_0, fv_8_15_1, fv_8_15_2, fv_8_15_3, fv_8_15_4, rf_8_15_4, o_8_16, fv_8_16_0, fv_8_16_1, fv_8_16_2, fv_8_16_3, fv_8_16_4, rf_8_16_4, fv_8_16_5, rf_8_16_5, ia_8_2, is_8_2, ia_8_6, is_8_6, ia_8_7, is_8_7, ia_8_8, is_8_8, ia_8_9, is_8_9, ia_8_14, is_8_14, ia_8_17, is_8_17, ia_8_18, is_8_18, ia_8_19, is_8_19, ia_8_20, is_8_20, ia_8_21, is_8_21, ia_8_22, is_8_22, ia_8_23, is_8_23, iz_8_12, iz_8_13, aa_3, ar_3, aa_10, ar_10, aa_11, ar_11, ia_10, is_10, ia_11, is_11, it_0, al_0, it_1, al_1, it_2, al_2, it_3, al_3, it_4, al_4, it_5, al_5, it_6, al_6, Li_s, Lr_s, Ll_s, On_s, lget, lset, clr_i, clr_r, clr_n, Kc_i, Kc_v, Kc_x, true_and, and_true, List.length_cons, List.length_nil, nlg, isLn, List.all_cons, List.all_nil, Bool.and_true, Bool.not_false, Nat.zero_le, Nat.reduceAdd, Nat.reduceLeDiff]
    have e : (bas (ton f mi).toNat + kAl f (ton f mi) + 11) % 12 = led f mi := by
      unfold led cls
      omega
    rw [e]
    exact k v3 h3
  simp (disch := omega) only [u18_0, u18_1, u18_2, u18_3, u18_5, u18_8, u18_9, u18_12, u18_15, u18_16, u18_17, u18_18, u18_19, u18_22, u18_25, u18_26, u18_28, u18_30, u18_33, u18_34, u18_35, u18_38, u18_39, u18_42, u18_45, u18_46, u18_47, u18_48, u18_49, u18_52, u18_55, u18_56, u18_58, u18_60, u18_63, u18_64, u18_65, u18_66, u18_69, u18_70, u18_73, u18_76, u18_77, u18_78, u18_79, u18_80, u18_83, u18_86, u18_87, u18_88, u18_89, u18_90, u18_93, u18_94, u18_97, u18_99, u18_101, u18_104, u18_105, u18_106, u18_109, u18_110, u18_111, u18_112, u18_115, u18_116, u18_117, u18_118, u18_120, u18_121, u18_123, u18_126, u18_129, Li_s, Lr_s, Ll_s, On_s, lget, lset, clr_i, clr_r, clr_n, Kc_i, Kc_v, Kc_x, true_and, and_true, List.length_cons, List.length_nil, nlg, isLn, List.all_cons, List.all_nil, Bool.and_true, Bool.not_false, Nat.zero_le, Nat.reduceAdd, Nat.reduceLeDiff]
  split
  · next h => exact key 0 (by rw [if_pos h])
  · next h => exact key 5 (by rw [if_neg h])
end KW
