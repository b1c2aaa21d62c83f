/-! PURE: the reference's placements are the class's -/
def Dis (T : List (Int × Int)) : Prop := ∀ i j : Nat, i < T.length → j < T.length → (T.getD i (0, 0)).2 = (T.getD j (0, 0)).2 → i = j
theorem lmF_ge : ∀ {T : List (Int × Int)} {k a : Int}, TnOk T → 0 ≤ a → 0 ≤ lmF T k a
  | [], _, _, _, h => h
  | t :: T, k, a, hT, h => by
    have h1 := (hT t (by simp)).1.1
    refine lmF_ge (T := T) (fun x hx => hT x (by simp [hx])) ?_
    split <;> omega
theorem lmF_hit : ∀ {T : List (Int × Int)} {k a : Int}, TnOk T → (∃ t ∈ T, t.2 = k) → 0 ≤ lmF T k a
  | [], _, _, _, ⟨t, h, _⟩ => absurd h (by simp)
  | t :: T, k, a, hT, ⟨x, hx, e⟩ => by
    have h1 := (hT t (by simp)).1.1
    by_cases g : t.2 = k
    · have w : lmF (t :: T) k a = lmF T k t.1 := by simp [lmF, g]
      rw [w]
      exact lmF_ge (fun x hx => hT x (by simp [hx])) h1
    · have w : lmF (t :: T) k a = lmF T k a := by simp [lmF, g]
      rw [w]
      refine lmF_hit (fun x hx => hT x (by simp [hx])) ⟨x, ?_, e⟩
      rcases List.mem_cons.mp hx with rfl | hx
      · exact absurd e g
      · exact hx
theorem gD_mem {T : List (Int × Int)} {i : Nat} (h : i < T.length) : T.getD i (0, 0) ∈ T := by
  rw [List.getD_eq_getElem?_getD, List.getElem?_eq_getElem h]
  exact List.getElem_mem _
theorem gD_l {A B : List (Int × Int)} {i : Nat} (h : i < A.length) : (A ++ B).getD i (0, 0) = A.getD i (0, 0) := by
  simp [List.getD_eq_getElem?_getD, List.getElem?_append_left h]
theorem gD_e {A : List (Int × Int)} {t : Int × Int} : (A ++ [t]).getD A.length (0, 0) = t := by
  simp [List.getD_eq_getElem?_getD]
theorem whF_0 : ∀ (T A : List (Int × Int)), whF A T 0 = 0
  | [], _ => rfl
  | t :: T, A => by
    have w : whF A (t :: T) 0 = whF (A ++ [t]) T 0 := by simp [whF]
    rw [w]
    exact whF_0 T _
theorem wh_dis : ∀ (T A : List (Int × Int)), TnOk A → TnOk T → Dis A → whF A T 1 = 1 → Dis (A ++ T)
  | [], A, _, _, hd, _ => by rw [List.append_nil]; exact hd
  | t :: T, A, hA, hT, hd, h => by
    have w : whF A (t :: T) 1 = whF (A ++ [t]) T (if lmp A t.2 = -1 then 1 else 0) := rfl
    rw [w] at h
    by_cases g : lmp A t.2 = -1
    · rw [if_pos g] at h
      have no : ∀ i : Nat, i < A.length → ¬ (A.getD i (0, 0)).2 = t.2 := fun i hi e => by
        have : 0 ≤ lmp A t.2 := lmF_hit hA ⟨_, gD_mem hi, e⟩
        omega
      have := wh_dis T (A ++ [t]) (fun x hx => by
        rcases List.mem_append.mp hx with hx | hx
        · exact hA x hx
        · rw [List.mem_singleton.mp hx]; exact hT t (by simp)) (fun x hx => hT x (by simp [hx])) (fun i j hi hj e => by
        rw [List.length_append, List.length_singleton] at hi hj
        by_cases i1 : i < A.length
        · by_cases j1 : j < A.length
          · rw [gD_l i1, gD_l j1] at e
            exact hd i j i1 j1 e
          · obtain rfl : j = A.length := by omega
            rw [gD_l i1, gD_e] at e
            exact absurd e (no i i1)
        · obtain rfl : i = A.length := by omega
          by_cases j1 : j < A.length
          · rw [gD_l j1, gD_e] at e
            exact absurd e.symm (no j j1)
          · omega) h
      rwa [List.append_assoc] at this
    · rw [if_neg g, whF_0] at h
      omega
theorem whl_dis {T : List (Int × Int)} (hT : TnOk T) (h : whl T = 1) : Dis T := wh_dis T [] (fun x hx => absurd hx (by simp)) hT (fun i j hi => absurd hi (by simp)) h
theorem to_at {T : List (Int × Int)} (hd : Dis T) {i : Nat} (h : i < T.length) : toI T (T.getD i (0, 0)).2 = (i : Int) := by
  have hn : ¬ toI T (T.getD i (0, 0)).2 = -1 := fun e => toF_no (by omega) e _ (gD_mem h) rfl
  have a1 := toF_at (T := T) (k := (T.getD i (0, 0)).2) (i := 0) (by omega) hn
  have a2 := toI_in T (T.getD i (0, 0)).2
  rw [Int.sub_zero] at a1
  have := hd (toI T (T.getD i (0, 0)).2).toNat i (by omega) h a1
  omega
theorem to_lm {T : List (Int × Int)} (hT : TnOk T) {k : Int} (h : 0 ≤ toI T k) : ¬ lmp T k = -1 := fun e => by
  have hn : ¬ toI T k = -1 := by omega
  have a1 := toF_at (T := T) (k := k) (i := 0) (by omega) hn
  have a2 := toI_in T k
  rw [Int.sub_zero] at a1
  have : 0 ≤ lmp T k := lmF_hit hT ⟨_, gD_mem (i := (toI T k).toNat) (by omega), a1⟩
  omega
theorem ndF_ex {T : List (Int × Int)} {o : Int} : ∀ (n : Nat) (i : Int) (a k : Nat), (ndF T o n i a).testBit k = true → a.testBit k = true ∨ ∃ j, i ≤ j ∧ j < i + n ∧ ¬ j = o ∧ k = (clsAt T j % 12).toNat
  | 0, _, _, _, h => Or.inl h
  | n + 1, i, a, k, h => by
    rcases ndF_ex n (i + 1) _ k h with h | ⟨j, h1, h2, h3⟩
    · by_cases e : i = o
      · rw [if_pos e] at h
        exact Or.inl h
      · rw [if_neg e, Nat.testBit_or, Bool.or_eq_true] at h
        rcases h with h | h
        · exact Or.inl h
        · refine Or.inr ⟨i, by omega, by omega, e, ?_⟩
          unfold btN at h
          rw [Nat.testBit_two_pow] at h
          have := of_decide_eq_true h
          omega
    · exact Or.inr ⟨j, by omega, by omega, h3⟩
theorem pw_bit (z i : Nat) : (2 ^ z).testBit i = decide (z = i) := Nat.testBit_two_pow
theorem ha_bit {T : List (Int × Int)} {o s a t : Int} {i : Nat} : (haN T o s a t).testBit i = true ↔ (i = 0 ∨ i = (toI T (s % 12)).toNat ∨ i = (toI T (a % 12)).toNat ∨ i = (toI T (t % 12)).toNat ∨ (0 ≤ o ∧ i = o.toNat)) := by
  have e1 : (1 : Nat).testBit i = decide (0 = i) := pw_bit 0 i
  unfold haN
  split
  · rename_i h
    simp only [Nat.testBit_or, pw_bit, e1, Bool.or_eq_true, decide_eq_true_eq]
    omega
  · rename_i h
    simp only [Nat.testBit_or, pw_bit, e1, Bool.or_eq_true, decide_eq_true_eq]
    omega
theorem ha_nd {T : List (Int × Int)} {o b s a t : Int} (hT : TnOk T) (hd : Dis T) (h0 : 0 < T.length) (hb : b % 12 = (T.getD 0 (0, 0)).2) (ho : o = -1 ∨ (0 ≤ o ∧ o < T.length)) (hs : 0 ≤ toI T (s % 12)) (ha : 0 ≤ toI T (a % 12)) (ht : 0 ≤ toI T (t % 12)) : haN T o s a t = 2 ^ T.length - 1 ↔ prN s a t b &&& ndN T o = ndN T o := by
  have fc : ∀ j : Nat, j < T.length → 0 ≤ (T.getD j (0, 0)).2 ∧ (T.getD j (0, 0)).2 ≤ 11 := fun j hj => (hT _ (gD_mem hj)).2
  have ts := lm_to (to_lm hT hs)
  have ta := lm_to (to_lm hT ha)
  have tt := lm_to (to_lm hT ht)
  constructor
  · intro h
    refine Nat.eq_of_testBit_eq (fun c => ?_)
    rw [Nat.testBit_and]
    cases hc : (ndN T o).testBit c with
    | false => simp
    | true =>
      rcases ndF_ex _ _ _ _ hc with hc | ⟨j, j1, j2, j3, rfl⟩
      · exact absurd hc (by simp)
      · have hj : (haN T o s a t).testBit j.toNat = true := by
          rw [h, Nat.testBit_two_pow_sub_one]
          exact decide_eq_true (by omega)
        have cj := fc j.toNat (by omega)
        have ec : clsAt T j = (T.getD j.toNat (0, 0)).2 := rfl
        rw [Bool.and_true]
        unfold prN
        rw [Nat.testBit_or, Nat.testBit_or, Nat.testBit_or]
        simp only [Bool.or_eq_true]
        rcases ha_bit.mp hj with e | e | e | e | e
        · refine Or.inr (bt_of ?_)
          rw [hb, ec, e]
          rw [e] at cj
          omega
        · refine Or.inl (Or.inl (Or.inl (bt_of ?_)))
          rw [show j = toI T (s % 12) by omega, ts.2.2]
          omega
        · refine Or.inl (Or.inl (Or.inr (bt_of ?_)))
          rw [show j = toI T (a % 12) by omega, ta.2.2]
          omega
        · refine Or.inl (Or.inr (bt_of ?_))
          rw [show j = toI T (t % 12) by omega, tt.2.2]
          omega
        · exact absurd (show j = o by omega) j3
  · intro h
    refine Nat.eq_of_testBit_eq (fun i => ?_)
    rw [Nat.testBit_two_pow_sub_one]
    by_cases hi : i < T.length
    · rw [decide_eq_true hi, ha_bit]
      by_cases g : (i : Int) = o
      · omega
      · have := nd_need h (show (0 : Int) ≤ (i : Int) by omega) (by omega) g
        have ci := fc i hi
        have ec : clsAt T (i : Int) = (T.getD i (0, 0)).2 := rfl
        have ei := to_at hd hi
        rw [ec, show (T.getD i (0, 0)).2 % 12 = (T.getD i (0, 0)).2 by omega] at this
        rcases this with e | e | e | e
        · rw [e, ei]; omega
        · rw [e, ei]; omega
        · rw [e, ei]; omega
        · have := hd 0 i h0 hi (hb.symm.trans e)
          omega
    · rw [decide_eq_false hi]
      cases hc : (haN T o s a t).testBit i with
      | false => rfl
      | true =>
        have := ha_bit.mp hc
        omega
section RP
variable {T : List (Int × Int)} {o b s a : Int}
theorem rt_app : ∀ (m n : Nat) (t : Int), rtL T o b s a (m + n) t = rtL T o b s a m t ++ rtL T o b s a n (t + m)
  | 0, n, t => by simp [rtL]
  | m + 1, n, t => by
    rw [show m + 1 + n = (m + n) + 1 by omega, rtL_s, rtL_s, rt_app m n (t + 1), List.append_assoc, show t + 1 + (m : Int) = t + ((m + 1 : Nat) : Int) by omega]
theorem rt_no : ∀ (n : Nat) (t : Int), t + n ≤ max (max 48 b) (a - 12) → 48 ≤ t → rtL T o b s a n t = []
  | 0, _, _, _ => rfl
  | n + 1, t, h, h1 => by
    rw [rtL_s, if_neg (fun q => by have := q.1; have := q.2.1; omega), rt_no n (t + 1) (by omega) (by omega)]
    rfl
theorem rt_eq (hT : TnOk T) (hd : Dis T) (h0 : 0 < T.length) (hb : b % 12 = (T.getD 0 (0, 0)).2) (ho : o = -1 ∨ (0 ≤ o ∧ o < T.length)) (hs : 0 ≤ toI T (s % 12)) (ha : 0 ≤ toI T (a % 12)) : ∀ (n : Nat) (t : Int), max (max 48 b) (a - 12) ≤ t → rtL T o b s a n t = tnL T o b s a n t
  | 0, _, _ => rfl
  | n + 1, t, h => by
    have e : rOk T o b s a t ↔ (¬ lmp T (t % 12) = -1 ∧ prN s a t b &&& ndN T o = ndN T o) := by
      constructor
      · intro q
        exact ⟨to_lm hT q.2.2.1, (ha_nd hT hd h0 hb ho hs ha q.2.2.1).mp q.2.2.2⟩
      · intro q
        have := (lm_to q.1).1
        exact ⟨by omega, by omega, this, (ha_nd hT hd h0 hb ho hs ha this).mpr q.2⟩
    rw [rtL_s, tnL_s, rt_eq hT hd h0 hb ho hs ha n (t + 1) (by omega)]
    by_cases g : rOk T o b s a t
    · rw [if_pos g, if_pos (e.mp g)]
    · rw [if_neg g, if_neg (fun q => g (e.mpr q))]
theorem rtA_eq (hT : TnOk T) (hd : Dis T) (h0 : 0 < T.length) (hb : b % 12 = (T.getD 0 (0, 0)).2) (ho : o = -1 ∨ (0 ≤ o ∧ o < T.length)) (hs : 0 ≤ toI T (s % 12)) (ha : 0 ≤ toI T (a % 12)) (h1 : 55 ≤ a) : rtA T o b s a = tnA T o b s a := by
  unfold rtA tnA
  by_cases g : max (max 48 b) (a - 12) ≤ min 67 a + 1
  · rw [show (min 67 a - 47).toNat = (max (max 48 b) (a - 12) - 48).toNat + (min 67 a - max (max 48 b) (a - 12) + 1).toNat by omega, rt_app, rt_no _ 48 (by omega) (by omega), List.nil_append, show (48 : Int) + ((max (max 48 b) (a - 12) - 48).toNat : Int) = max (max 48 b) (a - 12) by omega]
    exact rt_eq hT hd h0 hb ho hs ha _ _ (by omega)
  · rw [show (min 67 a - max (max 48 b) (a - 12) + 1).toNat = 0 by omega, rt_no _ 48 (by omega) (by omega)]
    rfl
theorem ra_app : ∀ (m n : Nat) (t : Int), raL T o b s (m + n) t = raL T o b s m t ++ raL T o b s n (t + m)
  | 0, n, t => by simp [raL]
  | m + 1, n, t => by
    rw [show m + 1 + n = (m + n) + 1 by omega, raL_s, raL_s, ra_app m n (t + 1), List.append_assoc, show t + 1 + (m : Int) = t + ((m + 1 : Nat) : Int) by omega]
theorem ra_no : ∀ (n : Nat) (t : Int), t + n ≤ max 55 (s - 12) → 55 ≤ t → raL T o b s n t = []
  | 0, _, _, _ => rfl
  | n + 1, t, h, h1 => by
    rw [raL_s, if_neg (fun q => by have := q.1; omega), ra_no n (t + 1) (by omega) (by omega)]
    rfl
theorem ra_eq (hT : TnOk T) (hd : Dis T) (h0 : 0 < T.length) (hb : b % 12 = (T.getD 0 (0, 0)).2) (ho : o = -1 ∨ (0 ≤ o ∧ o < T.length)) (hs : 0 ≤ toI T (s % 12)) : ∀ (n : Nat) (t : Int), max 55 (s - 12) ≤ t → raL T o b s n t = alL T o b s n t
  | 0, _, _ => rfl
  | n + 1, t, h => by
    rw [raL_s, alL_s, ra_eq hT hd h0 hb ho hs n (t + 1) (by omega)]
    by_cases g : 0 ≤ toI T (t % 12)
    · rw [if_pos ⟨by omega, g⟩, if_pos ⟨to_lm hT hs, to_lm hT g⟩, rtA_eq hT hd h0 hb ho hs g (by omega)]
    · rw [if_neg (fun q => g q.2), if_neg (fun q => g (lm_to q.2).1)]
theorem al_no (hs : lmp T (s % 12) = -1) : ∀ (n : Nat) (t : Int), alL T o b s n t = []
  | 0, _ => rfl
  | n + 1, t => by
    rw [alL_s, if_neg (fun q => q.1 hs), al_no hs n (t + 1)]
    rfl
theorem raA_eq (hT : TnOk T) (hd : Dis T) (h0 : 0 < T.length) (hb : b % 12 = (T.getD 0 (0, 0)).2) (ho : o = -1 ∨ (0 ≤ o ∧ o < T.length)) (h1 : 60 ≤ s) (h2 : s ≤ 81) : raA T o b s = alA T o b s := by
  unfold raA alA
  by_cases hs : 0 ≤ toI T (s % 12)
  · rw [if_pos hs]
    rw [show (min 74 s - 54).toNat = (max 55 (s - 12) - 55).toNat + (min 74 s - max 55 (s - 12) + 1).toNat by omega, ra_app, ra_no _ 55 (by omega) (by omega), List.nil_append, show (55 : Int) + ((max 55 (s - 12) - 55).toNat : Int) = max 55 (s - 12) by omega]
    exact ra_eq hT hd h0 hb ho hs _ _ (by omega)
  · rw [if_neg hs, al_no]
    by_cases g : lmp T (s % 12) = -1
    · exact g
    · exact absurd (lm_to g).1 hs
theorem rs_eq (hT : TnOk T) (hd : Dis T) (h0 : 0 < T.length) (hb : b % 12 = (T.getD 0 (0, 0)).2) (ho : o = -1 ∨ (0 ≤ o ∧ o < T.length)) : ∀ (n : Nat) (t : Int), 60 ≤ t → t + n ≤ 82 → rsL T o b n t = soL T o b n t
  | 0, _, _, _ => rfl
  | n + 1, t, h1, h2 => by
    rw [rsL_s, soL_s, raA_eq hT hd h0 hb ho h1 (by omega), rs_eq hT hd h0 hb ho n (t + 1) (by omega) (by omega)]
theorem rpl_eq (hT : TnOk T) (hw : whl T = 1) (h0 : 0 < T.length) (hb : b % 12 = (T.getD 0 (0, 0)).2) (ho : o = -1 ∨ (0 ≤ o ∧ o < T.length)) : rpl T o b = plc T o b := rs_eq hT (whl_dis hT hw) h0 hb ho 22 60 (by omega) (by omega)
end RP
