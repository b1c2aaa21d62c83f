/-! PURE: no chord has more than 64 placements -/
theorem nd_len {α : Type} [DecidableEq α] : ∀ (l L : List α), l.Nodup → (∀ x ∈ l, x ∈ L) → l.length ≤ L.length
  | [], _, _, _ => Nat.zero_le _
  | x :: l, L, h, s => by
    obtain ⟨h1, h2⟩ := List.nodup_cons.mp h
    have m := s x (by simp)
    have := nd_len l (L.erase x) h2 (fun y hy => (List.mem_erase_of_ne (fun (e : y = x) => h1 (e ▸ hy))).mpr (s y (by simp [hy])))
    rw [List.length_erase_of_mem m] at this
    have : 0 < L.length := List.length_pos_of_mem m
    rw [List.length_cons]
    omega
theorem nd_map {α β : Type} {g : α → β} : ∀ (l : List α), l.Nodup → (∀ x ∈ l, ∀ y ∈ l, g x = g y → x = y) → (l.map g).Nodup
  | [], _, _ => List.nodup_nil
  | x :: l, h, s => by
    obtain ⟨h1, h2⟩ := List.nodup_cons.mp h
    rw [List.map_cons]
    refine List.nodup_cons.mpr ⟨fun hm => ?_, nd_map l h2 (fun a ha b hb => s a (by simp [ha]) b (by simp [hb]))⟩
    obtain ⟨y, hy, e⟩ := List.mem_map.mp hm
    have := s y (by simp [hy]) x (by simp) e
    exact h1 (this ▸ hy)
/-- a placement as it stands in the loops -/
abbrev pOf (T : List (Int × Int)) (o b : Int) (x : Int × Int × Int) : Prop := (60 ≤ x.1 ∧ x.1 ≤ 81) ∧ (x.1 - 12 ≤ x.2.1 ∧ x.2.1 ≤ x.1) ∧ (x.2.1 - 12 ≤ x.2.2 ∧ x.2.2 ≤ x.2.1) ∧ ¬ lmp T (x.1 % 12) = -1 ∧ ¬ lmp T (x.2.1 % 12) = -1 ∧ ¬ lmp T (x.2.2 % 12) = -1 ∧ prN x.1 x.2.1 x.2.2 b &&& ndN T o = ndN T o
theorem tnL_of {T : List (Int × Int)} {o b s a : Int} : ∀ (n : Nat) (t : Int) x, x ∈ tnL T o b s a n t → x.1 = s ∧ x.2.1 = a ∧ (t ≤ x.2.2 ∧ x.2.2 < t + n) ∧ ¬ lmp T (x.2.2 % 12) = -1 ∧ prN s a x.2.2 b &&& ndN T o = ndN T o
  | 0, _, x, hx => absurd hx (by simp [tnL])
  | n + 1, t, x, hx => by
    rw [tnL_s] at hx
    rcases List.mem_append.mp hx with hx | hx
    · split at hx
      · rename_i h
        rw [List.mem_singleton.mp hx]
        exact ⟨rfl, rfl, ⟨by dsimp only; omega, by dsimp only; omega⟩, h⟩
      · exact absurd hx (by simp)
    · obtain ⟨h1, h2, h3, h4⟩ := tnL_of n (t + 1) x hx
      exact ⟨h1, h2, by omega, h4⟩
theorem tnL_nd {T : List (Int × Int)} {o b s a : Int} : ∀ (n : Nat) (t : Int), (tnL T o b s a n t).Nodup
  | 0, _ => List.nodup_nil
  | n + 1, t => by
    rw [tnL_s]
    refine List.nodup_append.mpr ⟨by split <;> simp, tnL_nd n (t + 1), fun x hx y hy e => ?_⟩
    split at hx
    · rw [List.mem_singleton.mp hx] at e
      have := (tnL_of n (t + 1) y hy).2.2.1
      rw [← e] at this
      dsimp only at this
      omega
    · exact absurd hx (by simp)
theorem alL_of {T : List (Int × Int)} {o b s : Int} : ∀ (n : Nat) (a : Int) x, x ∈ alL T o b s n a → x.1 = s ∧ (a ≤ x.2.1 ∧ x.2.1 < a + n) ∧ (x.2.1 - 12 ≤ x.2.2 ∧ x.2.2 ≤ x.2.1) ∧ ¬ lmp T (s % 12) = -1 ∧ ¬ lmp T (x.2.1 % 12) = -1 ∧ ¬ lmp T (x.2.2 % 12) = -1 ∧ prN s x.2.1 x.2.2 b &&& ndN T o = ndN T o
  | 0, _, x, hx => absurd hx (by simp [alL])
  | n + 1, a, x, hx => by
    rw [alL_s] at hx
    rcases List.mem_append.mp hx with hx | hx
    · split at hx
      · rename_i h
        obtain ⟨h1, h2, h3, h4, h5⟩ := tnL_of _ _ x hx
        subst h2
        exact ⟨h1, by omega, by omega, h.1, h.2, h4, h5⟩
      · exact absurd hx (by simp)
    · obtain ⟨h1, h2, h3⟩ := alL_of n (a + 1) x hx
      exact ⟨h1, by omega, h3⟩
theorem alL_nd {T : List (Int × Int)} {o b s : Int} : ∀ (n : Nat) (a : Int), (alL T o b s n a).Nodup
  | 0, _ => List.nodup_nil
  | n + 1, a => by
    rw [alL_s]
    refine List.nodup_append.mpr ⟨?_, alL_nd n (a + 1), fun x hx y hy e => ?_⟩
    · split
      · exact tnL_nd _ _
      · exact List.nodup_nil
    · split at hx
      · have h1 := (tnL_of _ _ x hx).2.1
        have h2 := (alL_of n (a + 1) y hy).2.1
        rw [← e] at h2
        omega
      · exact absurd hx (by simp)
theorem soL_of {T : List (Int × Int)} {o b : Int} : ∀ (n : Nat) (s : Int), 60 ≤ s → s + n ≤ 82 → ∀ x, x ∈ soL T o b n s → s ≤ x.1 ∧ pOf T o b x
  | 0, _, _, _, x, hx => absurd hx (by simp [soL])
  | n + 1, s, h0, h1, x, hx => by
    rw [soL_s] at hx
    rcases List.mem_append.mp hx with hx | hx
    · obtain ⟨g1, g2, g3, g4, g5, g6, g7⟩ := alL_of _ _ x hx
      subst g1
      exact ⟨by omega, by omega, by omega, by omega, g4, g5, g6, g7⟩
    · obtain ⟨g1, g2⟩ := soL_of n (s + 1) (by omega) (by omega) x hx
      exact ⟨by omega, g2⟩
theorem soL_nd {T : List (Int × Int)} {o b : Int} : ∀ (n : Nat) (s : Int), 60 ≤ s → s + n ≤ 82 → (soL T o b n s).Nodup
  | 0, _, _, _ => List.nodup_nil
  | n + 1, s, h0, h1 => by
    rw [soL_s]
    refine List.nodup_append.mpr ⟨alL_nd _ _, soL_nd n (s + 1) (by omega) (by omega), fun x hx y hy e => ?_⟩
    have h1 := (alL_of _ _ x hx).1
    have h2 := (soL_of n (s + 1) (by omega) (by omega) y hy).1
    rw [← e] at h2
    omega
theorem lmF_no : ∀ {T : List (Int × Int)} {k a : Int}, (∀ t ∈ T, ¬ t.2 = k) → lmF T k a = a
  | [], _, _, _ => rfl
  | t :: T, k, a, h => by
    have w : lmF (t :: T) k a = lmF T k a := by simp [lmF, h t (by simp)]
    rw [w]
    exact lmF_no (fun x hx => h x (by simp [hx]))
theorem toF_no : ∀ {T : List (Int × Int)} {k i : Int}, 0 ≤ i → toF T k i = -1 → ∀ t ∈ T, ¬ t.2 = k
  | [], _, _, _, _, t, ht => absurd ht (by simp)
  | t :: T, k, i, h0, h, x, hx => by
    by_cases e : t.2 = k
    · have w : toF (t :: T) k i = i := by simp [toF, e]
      omega
    · have w : toF (t :: T) k i = toF T k (i + 1) := by simp [toF, e]
      rcases List.mem_cons.mp hx with rfl | hx
      · exact e
      · exact toF_no (by omega) (w ▸ h) x hx
theorem toF_at : ∀ {T : List (Int × Int)} {k i : Int}, 0 ≤ i → ¬ toF T k i = -1 → (T.getD (toF T k i - i).toNat (0, 0)).2 = k
  | [], _, _, _, h => absurd rfl h
  | t :: T, k, i, h0, h => by
    by_cases e : t.2 = k
    · have w : toF (t :: T) k i = i := by simp [toF, e]
      rw [w, Int.sub_self]
      exact e
    · have w : toF (t :: T) k i = toF T k (i + 1) := by simp [toF, e]
      rw [w] at h ⊢
      have := toF_in T k (i + 1) (by omega)
      have ih := toF_at (T := T) (k := k) (i := i + 1) (by omega) h
      rw [show (toF T k (i + 1) - i).toNat = (toF T k (i + 1) - (i + 1)).toNat + 1 by omega]
      simpa using ih
theorem lm_to {T : List (Int × Int)} {k : Int} (h : ¬ lmp T k = -1) : 0 ≤ toI T k ∧ toI T k < T.length ∧ clsAt T (toI T k) = k := by
  have hn : ¬ toI T k = -1 := fun e => h (lmF_no (toF_no (by omega) e))
  have := toI_in T k
  have at1 := toF_at (T := T) (k := k) (i := 0) (by omega) hn
  rw [Int.sub_zero] at at1
  exact ⟨by omega, by omega, at1⟩
/-- a tone that is needed sounds -/
theorem bt_in {c z : Int} (h : (btN z).testBit (c % 12).toNat = true) : z % 12 = c % 12 := by
  unfold btN at h
  rw [Nat.testBit_two_pow] at h
  have : (z % 12).toNat = (c % 12).toNat := by simpa using h
  omega
theorem bt_of {c z : Int} (h : z % 12 = c % 12) : (btN z).testBit (c % 12).toNat = true := by
  unfold btN
  rw [Nat.testBit_two_pow]
  simp [h]
theorem ndF_of {T : List (Int × Int)} {o : Int} : ∀ (n : Nat) (i : Int) (a k : Nat), a.testBit k = true → (ndF T o n i a).testBit k = true
  | 0, _, _, _, h => h
  | n + 1, i, a, k, h => by
    refine ndF_of n (i + 1) _ k ?_
    split
    · exact h
    · rw [Nat.testBit_or, h]
      rfl
theorem ndF_at {T : List (Int × Int)} {o : Int} : ∀ (n : Nat) (i : Int) (a : Nat) (j : Int), i ≤ j → j < i + n → ¬ j = o → (ndF T o n i a).testBit (clsAt T j % 12).toNat = true
  | 0, _, _, _, h1, h2, _ => absurd h2 (by omega)
  | n + 1, i, a, j, h1, h2, h3 => by
    by_cases e : j = i
    · subst e
      refine ndF_of n (j + 1) _ _ ?_
      rw [if_neg h3, Nat.testBit_or, bt_of rfl]
      simp
    · exact ndF_at n (i + 1) _ j (by omega) (by omega) h3
theorem nd_need {T : List (Int × Int)} {o b s a t j : Int} (h : prN s a t b &&& ndN T o = ndN T o) (h0 : 0 ≤ j) (h1 : j < T.length) (h2 : ¬ j = o) : s % 12 = clsAt T j % 12 ∨ a % 12 = clsAt T j % 12 ∨ t % 12 = clsAt T j % 12 ∨ b % 12 = clsAt T j % 12 := by
  have n1 : (ndN T o).testBit (clsAt T j % 12).toNat = true := ndF_at T.length 0 0 j h0 (by omega) h2
  rw [← h, Nat.testBit_and] at n1
  have n2 : (prN s a t b).testBit (clsAt T j % 12).toNat = true := (Bool.and_eq_true_iff.mp n1).1
  unfold prN at n2
  rw [Nat.testBit_or, Nat.testBit_or, Nat.testBit_or] at n2
  simp only [Bool.or_eq_true] at n2
  rcases n2 with ((n2 | n2) | n2) | n2
  · exact Or.inl (bt_in n2)
  · exact Or.inr (Or.inl (bt_in n2))
  · exact Or.inr (Or.inr (Or.inl (bt_in n2)))
  · exact Or.inr (Or.inr (Or.inr (bt_in n2)))
def inF (F i : Nat) : Bool := Nat.beq (F / 2 ^ i % 2) 1
/-- a code: which tones, which octaves -/
def okC (F β o n : Nat) : Bool :=
  let i := n / 8 % 4
  let j := n / 32 % 4
  let k := n / 128 % 4
  inF F i && (inF F j && (inF F k && ((Nat.beq (n / 2 % 2) 0 || Nat.beq i j) && ((Nat.beq (n / 4 % 2) 0 || Nat.beq j k) && ([0, 1, 2, 3].all (fun f => !inF F f || Nat.beq f β || Nat.beq f o || Nat.beq f i || Nat.beq f j || Nat.beq f k))))))
def cnC (F β o : Nat) : Nat → Nat
  | 0 => 0
  | n + 1 => cond (okC F β o n) (cnC F β o n + 1) (cnC F β o n)
def cnA : Bool := (List.range 16).all (fun F => (List.range 5).all (fun β => (List.range 5).all (fun o => Nat.ble (cnC F β o 512) 64)))
theorem cnA_ok : cnA = true := by decide +kernel
theorem cnC_len (F β o : Nat) : ∀ n, ((List.range n).filter (okC F β o)).length = cnC F β o n
  | 0 => rfl
  | n + 1 => by
    have ih := cnC_len F β o n
    rw [List.range_succ, List.filter_append, List.length_append, ih]
    cases h : okC F β o n <;> simp [List.filter, cnC, h]
theorem cnC_le {F β o : Nat} (h1 : F < 16) (h2 : β < 5) (h3 : o < 5) : cnC F β o 512 ≤ 64 := by
  have h := cnA_ok
  unfold cnA at h
  have a1 := List.all_eq_true.mp h F (List.mem_range.mpr h1)
  have a2 := List.all_eq_true.mp a1 β (List.mem_range.mpr h2)
  have a3 := List.all_eq_true.mp a2 o (List.mem_range.mpr h3)
  exact Nat.le_of_ble_eq_true a3
def fmq1 (T : List (Int × Int)) (i : Nat) : Nat := if (i < T.length ∧ toI T (clsAt T (i : Int)) = (i : Int)) then 1 else 0
def fmk (T : List (Int × Int)) : Nat := fmq1 T 0 + 2 * fmq1 T 1 + 4 * fmq1 T 2 + 8 * fmq1 T 3
theorem fmq1_le (T : List (Int × Int)) (i : Nat) : fmq1 T i ≤ 1 := by
  unfold fmq1
  split <;> omega
theorem inF_fm {T : List (Int × Int)} {i : Nat} (h : i < 4) : inF (fmk T) i = true ↔ (i < T.length ∧ toI T (clsAt T (i : Int)) = (i : Int)) := by
  have e : fmk T / 2 ^ i % 2 = fmq1 T i := by
    have a0 := fmq1_le T 0
    have a1 := fmq1_le T 1
    have a2 := fmq1_le T 2
    have a3 := fmq1_le T 3
    unfold fmk
    have : i = 0 ∨ i = 1 ∨ i = 2 ∨ i = 3 := by omega
    rcases this with rfl | rfl | rfl | rfl <;> omega
  unfold inF
  rw [e, Nat.beq_eq]
  unfold fmq1
  split
  · rename_i h
    exact ⟨fun _ => h, fun _ => rfl⟩
  · rename_i h
    exact ⟨fun q => absurd q (by omega), fun q => absurd q h⟩
def cdN (e1 e2 e3 i j k : Nat) : Nat := e1 + 2 * e2 + 4 * e3 + 8 * i + 32 * j + 128 * k
def cdX (T : List (Int × Int)) (x : Int × Int × Int) : Nat := cdN (if 72 ≤ x.1 then 1 else 0) (if x.1 - x.2.1 = 12 then 1 else 0) (if x.2.1 - x.2.2 = 12 then 1 else 0) (toI T (x.1 % 12)).toNat (toI T (x.2.1 % 12)).toNat (toI T (x.2.2 % 12)).toNat
theorem to_first {T : List (Int × Int)} {k : Int} (h : ¬ lmp T k = -1) : toI T (clsAt T ((toI T k).toNat : Int)) = ((toI T k).toNat : Int) := by
  obtain ⟨h1, h2, h3⟩ := lm_to h
  rw [show (((toI T k).toNat : Nat) : Int) = toI T k by omega, h3]
theorem cd_ok {T : List (Int × Int)} {o b : Int} {x : Int × Int × Int} (hT : TnOk T) (hl : T.length ≤ 4) (hx : pOf T o b x) : cdX T x < 512 ∧ okC (fmk T) (if 0 ≤ toI T (b % 12) then (toI T (b % 12)).toNat else 4) (if 0 ≤ o ∧ o ≤ 3 then o.toNat else 4) (cdX T x) = true := by
  obtain ⟨s, a, t⟩ := x
  obtain ⟨h1, h2, h3, h4, h5, h6, h7⟩ := hx
  dsimp only at h1 h2 h3 h4 h5 h6 h7
  obtain ⟨i1, i2, i3⟩ := lm_to h4
  obtain ⟨j1, j2, j3⟩ := lm_to h5
  obtain ⟨k1, k2, k3⟩ := lm_to h6
  have fi := to_first h4
  have fj := to_first h5
  have fk := to_first h6
  have q1 : s - a = 12 → (toI T (s % 12)).toNat = (toI T (a % 12)).toNat := fun e => by rw [show s % 12 = a % 12 by omega]
  have q2 : a - t = 12 → (toI T (a % 12)).toNat = (toI T (t % 12)).toNat := fun e => by rw [show a % 12 = t % 12 by omega]
  have nd : ∀ f : Nat, f < T.length → toI T (clsAt T (f : Int)) = (f : Int) → ¬ (f : Int) = o → f = (toI T (s % 12)).toNat ∨ f = (toI T (a % 12)).toNat ∨ f = (toI T (t % 12)).toNat ∨ (0 ≤ toI T (b % 12) ∧ f = (toI T (b % 12)).toNat) := by
    intro f f1 f2 f3
    have fc : 0 ≤ clsAt T (f : Int) ∧ clsAt T (f : Int) ≤ 11 := by
      unfold clsAt
      rw [Int.toNat_natCast, List.getD_eq_getElem?_getD, List.getElem?_eq_getElem f1]
      exact (hT _ (List.getElem_mem f1)).2
    have := nd_need h7 (show 0 ≤ (f : Int) by omega) (by omega) f3
    rw [show clsAt T (f : Int) % 12 = clsAt T (f : Int) by omega] at this
    rcases this with e | e | e | e
    · rw [e, f2]; omega
    · rw [e, f2]; omega
    · rw [e, f2]; omega
    · rw [e, f2]; omega
  unfold cdX
  dsimp only
  have mi : (toI T (s % 12)).toNat < T.length := by omega
  have mj : (toI T (a % 12)).toNat < T.length := by omega
  have mk : (toI T (t % 12)).toNat < T.length := by omega
  generalize (toI T (s % 12)).toNat = i at *
  generalize (toI T (a % 12)).toNat = j at *
  generalize (toI T (t % 12)).toNat = k at *
  have b1 : (if 72 ≤ s then 1 else 0) ≤ 1 := by split <;> omega
  have b2 : (if s - a = 12 then 1 else 0) ≤ 1 := by split <;> omega
  have b3 : (if a - t = 12 then 1 else 0) ≤ 1 := by split <;> omega
  have c2 : (if s - a = 12 then 1 else 0) = 0 ∨ i = j := by
    by_cases e : s - a = 12
    · exact Or.inr (q1 e)
    · exact Or.inl (if_neg e)
  have c3 : (if a - t = 12 then 1 else 0) = 0 ∨ j = k := by
    by_cases e : a - t = 12
    · exact Or.inr (q2 e)
    · exact Or.inl (if_neg e)
  generalize (if 72 ≤ s then 1 else 0) = e1 at *
  generalize (if s - a = 12 then 1 else 0) = e2 at *
  generalize (if a - t = 12 then 1 else 0) = e3 at *
  have d1 : cdN e1 e2 e3 i j k / 8 % 4 = i := by unfold cdN; omega
  have d2 : cdN e1 e2 e3 i j k / 32 % 4 = j := by unfold cdN; omega
  have d3 : cdN e1 e2 e3 i j k / 128 % 4 = k := by unfold cdN; omega
  have d4 : cdN e1 e2 e3 i j k / 2 % 2 = e2 := by unfold cdN; omega
  have d5 : cdN e1 e2 e3 i j k / 4 % 2 = e3 := by unfold cdN; omega
  refine ⟨by unfold cdN; omega, ?_⟩
  unfold okC
  dsimp only
  rw [d1, d2, d3, d4, d5]
  simp only [Bool.and_eq_true]
  refine ⟨(inF_fm (by omega)).mpr ⟨by omega, fi⟩, (inF_fm (by omega)).mpr ⟨by omega, fj⟩, (inF_fm (by omega)).mpr ⟨by omega, fk⟩, ?_, ?_, List.all_eq_true.mpr (fun f hf => ?_)⟩
  · simp only [Bool.or_eq_true, Nat.beq_eq]
    exact c2
  · simp only [Bool.or_eq_true, Nat.beq_eq]
    exact c3
  · have f4 : f < 4 := by
      simp at hf
      omega
    simp only [Bool.or_eq_true, Nat.beq_eq, Bool.not_eq_true']
    by_cases g : inF (fmk T) f = true
    · obtain ⟨g1, g2⟩ := (inF_fm f4).mp g
      by_cases g3 : (f : Int) = o
      · rw [if_pos (show 0 ≤ o ∧ o ≤ 3 by omega)]
        omega
      · rcases nd f g1 g2 g3 with e | e | e | ⟨e, e'⟩
        · omega
        · omega
        · omega
        · rw [if_pos e]
          omega
    · exact Or.inl (Or.inl (Or.inl (Or.inl (Or.inl (by simpa using g)))))
theorem cdN_inj {e1 e2 e3 i j k f1 f2 f3 i' j' k' : Nat} (a1 : e1 ≤ 1) (a2 : e2 ≤ 1) (a3 : e3 ≤ 1) (b1 : f1 ≤ 1) (b2 : f2 ≤ 1) (b3 : f3 ≤ 1) (c1 : i < 4) (c2 : j < 4) (c3 : k < 4) (d1 : i' < 4) (d2 : j' < 4) (d3 : k' < 4) (e : cdN e1 e2 e3 i j k = cdN f1 f2 f3 i' j' k') : e1 = f1 ∧ e2 = f2 ∧ e3 = f3 ∧ i = i' ∧ j = j' ∧ k = k' := by
  unfold cdN at e
  omega
theorem cd_inj {T : List (Int × Int)} {o b : Int} {x y : Int × Int × Int} (hT : TnOk T) (hl : T.length ≤ 4) (hx : pOf T o b x) (hy : pOf T o b y) (e : cdX T x = cdX T y) : x = y := by
  obtain ⟨s, a, t⟩ := x
  obtain ⟨h1, h2, h3, h4, h5, h6, -⟩ := hx
  obtain ⟨s', a', t'⟩ := y
  obtain ⟨g1, g2, g3, g4, g5, g6, -⟩ := hy
  dsimp only at h1 h2 h3 h4 h5 h6 g1 g2 g3 g4 g5 g6
  have i1 := lm_to h4
  have j1 := lm_to h5
  have k1 := lm_to h6
  have i2 := lm_to g4
  have j2 := lm_to g5
  have k2 := lm_to g6
  unfold cdX at e
  dsimp only at e
  have z : ∀ p : Prop, [Decidable p] → (if p then 1 else 0) ≤ 1 := fun p _ => by split <;> omega
  obtain ⟨u1, u2, u3, u4, u5, u6⟩ := cdN_inj (z _) (z _) (z _) (z _) (z _) (z _) (by omega) (by omega) (by omega) (by omega) (by omega) (by omega) e
  have E1 : s % 12 = s' % 12 := by
    rw [← i1.2.2, ← i2.2.2, show toI T (s % 12) = toI T (s' % 12) by omega]
  have E2 : a % 12 = a' % 12 := by
    rw [← j1.2.2, ← j2.2.2, show toI T (a % 12) = toI T (a' % 12) by omega]
  have E3 : t % 12 = t' % 12 := by
    rw [← k1.2.2, ← k2.2.2, show toI T (t % 12) = toI T (t' % 12) by omega]
  clear e z u4 u5 u6 i1 j1 k1 i2 j2 k2 h4 h5 h6 g4 g5 g6
  obtain rfl : s = s' := by split at u1 <;> split at u1 <;> omega
  obtain rfl : a = a' := by split at u2 <;> split at u2 <;> omega
  obtain rfl : t = t' := by split at u3 <;> split at u3 <;> omega
  rfl
theorem sml : Sml := by
  intro T o b hT hl hb
  have hof : ∀ x ∈ plc T o b, pOf T o b x := fun x hx => (soL_of 22 60 (by omega) (by omega) x hx).2
  have h1 : (plc T o b).Nodup := soL_nd 22 60 (by omega) (by omega)
  have h2 := nd_map (g := cdX T) _ h1 (fun x hx y hy e => cd_inj hT hl (hof x hx) (hof y hy) e)
  have h3 := nd_len _ ((List.range 512).filter (okC (fmk T) (if 0 ≤ toI T (b % 12) then (toI T (b % 12)).toNat else 4) (if 0 ≤ o ∧ o ≤ 3 then o.toNat else 4))) h2 (fun n hn => by
    obtain ⟨x, hx, rfl⟩ := List.mem_map.mp hn
    have := cd_ok hT hl (hof x hx)
    exact List.mem_filter.mpr ⟨List.mem_range.mpr this.1, this.2⟩)
  rw [List.length_map, cnC_len] at h3
  refine Nat.le_trans h3 (cnC_le ?_ ?_ ?_)
  · have a0 := fmq1_le T 0
    have a1 := fmq1_le T 1
    have a2 := fmq1_le T 2
    have a3 := fmq1_le T 3
    unfold fmk
    omega
  · have := toI_in T (b % 12)
    split <;> omega
  · split <;> omega
