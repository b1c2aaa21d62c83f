/-! TONES: what a bass and its figures mean in a key. Pure. -/
/-- the numbers of the full row -/
def fuN (L : Fg) : List Int := if dig L = 0 then [5, 3] else if dig L = 3 then [5, 3] else if dig L = 6 then [6, 3] else if dig L = 7 then [7, 5, 3] else if dig L = 65 then [6, 5, 3] else if dig L = 43 then [6, 4, 3] else if dig L = 2 then [6, 4, 2] else if dig L = 42 then [6, 4, 2] else if dig L = 4 then [5, 4] else L.map Prod.fst
theorem ful_eq {σ : Sg} {c r : Nat} {L : Fg} (hr : RowIs σ c r L) (ho : FgOk L) : ful L = (fuN L).map (fun n => (n, sgn L n)) := by
  unfold ful lng fuN
  by_cases c0 : 0 = dig L
  · rw [if_pos c0, if_pos c0.symm]
    rfl
  rw [if_neg c0, if_neg (Ne.symm c0)]
  by_cases c1 : 3 = dig L
  · rw [if_pos c1, if_pos c1.symm]
    rfl
  rw [if_neg c1, if_neg (Ne.symm c1)]
  by_cases c2 : 6 = dig L
  · rw [if_pos c2, if_pos c2.symm]
    rfl
  rw [if_neg c2, if_neg (Ne.symm c2)]
  by_cases c3 : 7 = dig L
  · rw [if_pos c3, if_pos c3.symm]
    rfl
  rw [if_neg c3, if_neg (Ne.symm c3)]
  by_cases c4 : 65 = dig L
  · rw [if_pos c4, if_pos c4.symm]
    rfl
  rw [if_neg c4, if_neg (Ne.symm c4)]
  by_cases c5 : 43 = dig L
  · rw [if_pos c5, if_pos c5.symm]
    rfl
  rw [if_neg c5, if_neg (Ne.symm c5)]
  by_cases c6 : 2 = dig L
  · rw [if_pos c6, if_pos c6.symm]
    rfl
  rw [if_neg c6, if_neg (Ne.symm c6)]
  by_cases c7 : 42 = dig L
  · rw [if_pos c7, if_pos c7.symm]
    rfl
  rw [if_neg c7, if_neg (Ne.symm c7)]
  by_cases c8 : 4 = dig L
  · rw [if_pos c8, if_pos c8.symm]
    rfl
  rw [if_neg c8, if_neg (Ne.symm c8)]
  clear c0 c1 c2 c3 c4 c5 c6 c7 c8
  rcases L with _ | ⟨⟨p1, p2⟩, _ | ⟨⟨q1, q2⟩, _ | ⟨⟨w1, w2⟩, _ | ⟨x, t⟩⟩⟩⟩
  · rfl
  · have o1 : 2 ≤ p1 ∧ p1 ≤ 9 := ⟨(ho (p1, p2) (by simp)).1, (ho (p1, p2) (by simp)).2.1⟩
    have e : dig [(p1, p2)] = p1 := by simp [dig]
    rw [e, ful0, show p1 / 100 % 10 = 0 by omega, show p1 / 10 % 10 = 0 by omega, show p1 % 10 = p1 by omega]
    simp [stp1, show ¬ p1 = 0 by omega]
  · have o1 : 2 ≤ p1 ∧ p1 ≤ 9 := ⟨(ho (p1, p2) (by simp)).1, (ho (p1, p2) (by simp)).2.1⟩
    have o2 : 2 ≤ q1 ∧ q1 ≤ 9 := ⟨(ho (q1, q2) (by simp)).1, (ho (q1, q2) (by simp)).2.1⟩
    have e : dig [(p1, p2), (q1, q2)] = p1 * 10 + q1 := by simp [dig]
    rw [e, ful0, show (p1 * 10 + q1) / 100 % 10 = 0 by omega, show (p1 * 10 + q1) / 10 % 10 = p1 by omega, show (p1 * 10 + q1) % 10 = q1 by omega]
    simp [stp1, show ¬ p1 = 0 by omega, show ¬ q1 = 0 by omega]
  · have o1 : 2 ≤ p1 ∧ p1 ≤ 9 := ⟨(ho (p1, p2) (by simp)).1, (ho (p1, p2) (by simp)).2.1⟩
    have o2 : 2 ≤ q1 ∧ q1 ≤ 9 := ⟨(ho (q1, q2) (by simp)).1, (ho (q1, q2) (by simp)).2.1⟩
    have o3 : 2 ≤ w1 ∧ w1 ≤ 9 := ⟨(ho (w1, w2) (by simp)).1, (ho (w1, w2) (by simp)).2.1⟩
    have e : dig [(p1, p2), (q1, q2), (w1, w2)] = (p1 * 10 + q1) * 10 + w1 := by simp [dig]
    rw [e, ful0, show ((p1 * 10 + q1) * 10 + w1) / 100 % 10 = p1 by omega, show ((p1 * 10 + q1) * 10 + w1) / 10 % 10 = q1 by omega, show ((p1 * 10 + q1) * 10 + w1) % 10 = w1 by omega]
    simp [stp1, show ¬ p1 = 0 by omega, show ¬ q1 = 0 by omega, show ¬ w1 = 0 by omega]
  · exact hr.elim
theorem sgn_in {L : Fg} (ho : FgOk L) (n : Int) : 0 ≤ sgn L n ∧ sgn L n ≤ 3 := by
  induction L with
  | nil => exact ⟨by show (0 : Int) ≤ 0; decide, by show (0 : Int) ≤ 3; decide⟩
  | cons p t ih =>
    have h1 := ho p (by simp)
    have h2 := ih (fun q hq => ho q (by simp [hq]))
    simp only [sgn]
    split
    · exact h1.2.2
    · exact h2
theorem fuN_in {L : Fg} (ho : FgOk L) : ∀ n ∈ fuN L, 2 ≤ n ∧ n ≤ 9 := by
  intro n hn
  unfold fuN at hn
  repeat' split at hn
  all_goals first
    | (simp only [List.mem_cons, List.not_mem_nil, or_false] at hn; omega)
    | (obtain ⟨p, hp, rfl⟩ := List.mem_map.mp hn; exact ⟨(ho p hp).1, (ho p hp).2.1⟩)
theorem fuN_len {L : Fg} (h : L.length ≤ 3) : (fuN L).length ≤ 3 := by
  unfold fuN
  repeat' split
  all_goals simp <;> omega
theorem ful_ok {σ : Sg} {c r : Nat} {L : Fg} (hr : RowIs σ c r L) (ho : FgOk L) : FgOk (ful L) ∧ (ful L).length ≤ 3 := by
  rw [ful_eq hr ho]
  refine ⟨fun p hp => ?_, ?_⟩
  · obtain ⟨n, hn, rfl⟩ := List.mem_map.mp hp
    have h1 := fuN_in ho n hn
    exact ⟨h1.1, h1.2, sgn_in ho n⟩
  · rw [List.length_map]
    exact fuN_len hr.len.2
/-- what a sign, or the key, adds to a letter -/
def alt (f l s : Int) : Int := if s = 1 then 1 else if s = 2 then -1 else if s = 3 then 0 else kAl f l
theorem alt_in (f l s : Int) : -1 ≤ alt f l s ∧ alt f l s ≤ 1 := by
  have := kAl_in f l
  unfold alt
  repeat' split
  all_goals first | decide | exact this
/-- a figure's tone over the bass letter: letter and class -/
def tnF (f bl : Int) (p : Int × Int) : Int × Int := ((bl + p.1 - 1) % 7, cls ((bl + p.1 - 1) % 7) (alt f ((bl + p.1 - 1) % 7) p.2))
/-- the tones of a bass with the full row F -/
def tns (f bl ba : Int) (F : Fg) : List (Int × Int) := (bl, cls bl ba) :: F.map (tnF f bl)
def TnOk (T : List (Int × Int)) : Prop := ∀ t ∈ T, (0 ≤ t.1 ∧ t.1 ≤ 6) ∧ 0 ≤ t.2 ∧ t.2 ≤ 11
theorem tns_ok {f bl ba : Int} {F : Fg} (hb : 0 ≤ bl ∧ bl ≤ 6) : TnOk (tns f bl ba F) := by
  intro t ht
  rcases List.mem_cons.mp ht with rfl | ht
  · exact ⟨hb, cls_in bl ba⟩
  · obtain ⟨p, hp, rfl⟩ := List.mem_map.mp ht
    exact ⟨by dsimp only [tnF]; omega, cls_in _ _⟩
/-- the letter of the last tone with the class k, or -1 -/
def lmF : List (Int × Int) → Int → Int → Int
  | [], _, a => a
  | t :: T, k, a => lmF T k (if t.2 = k then t.1 else a)
def lmp (T : List (Int × Int)) (k : Int) : Int := lmF T k (-1)
theorem lmF_app (T : List (Int × Int)) (t : Int × Int) (k a : Int) : lmF (T ++ [t]) k a = if t.2 = k then t.1 else lmF T k a := by
  induction T generalizing a with
  | nil => rfl
  | cons x T ih => exact ih _
theorem lmp_app (T : List (Int × Int)) (t : Int × Int) (k : Int) : lmp (T ++ [t]) k = if t.2 = k then t.1 else lmp T k := lmF_app T t k (-1)
theorem lmF_in {T : List (Int × Int)} (hT : TnOk T) (k : Int) : ∀ a, -1 ≤ a → a ≤ 6 → -1 ≤ lmF T k a ∧ lmF T k a ≤ 6 := by
  induction T with
  | nil => intro a h1 h2; exact ⟨h1, h2⟩
  | cons x T ih =>
    intro a h1 h2
    have hx := hT x (by simp)
    refine ih (fun t ht => hT t (by simp [ht])) _ ?_ ?_
    · split <;> omega
    · split <;> omega
theorem lmp_in {T : List (Int × Int)} (hT : TnOk T) (k : Int) : -1 ≤ lmp T k ∧ lmp T k ≤ 6 := lmF_in hT k (-1) (by omega) (by omega)
/-- no class twice: 1, else 0 -/
def whF : List (Int × Int) → List (Int × Int) → Int → Int
  | _, [], w => w
  | A, t :: T, w => whF (A ++ [t]) T (if lmp A t.2 = -1 then w else 0)
def whl (T : List (Int × Int)) : Int := whF [] T 1
theorem whF_app (T : List (Int × Int)) (t : Int × Int) : ∀ (A : List (Int × Int)) (w : Int), whF A (T ++ [t]) w = if lmp (A ++ T) t.2 = -1 then whF A T w else 0 := by
  induction T with
  | nil => intro A w; simp [whF]
  | cons x T ih =>
    intro A w
    show whF (A ++ [x]) (T ++ [t]) _ = _
    rw [ih, List.append_assoc]
    rfl
theorem whl_app (T : List (Int × Int)) (t : Int × Int) : whl (T ++ [t]) = if lmp T t.2 = -1 then whl T else 0 := whF_app T t [] 1
theorem whl_in (T : List (Int × Int)) : whl T = 0 ∨ whl T = 1 := by
  have : ∀ (T A : List (Int × Int)) (w : Int), (w = 0 ∨ w = 1) → (whF A T w = 0 ∨ whF A T w = 1) := by
    intro T
    induction T with
    | nil => intro A w h; exact h
    | cons x T ih =>
      intro A w h
      refine ih _ _ ?_
      split
      · exact h
      · exact Or.inl rfl
  exact this T [] 1 (Or.inr rfl)
/-- which tone may be left out: the added fifth, or -1 -/
def opt (L : Fg) : Int := if dig L = 0 ∨ dig L = 3 ∨ dig L = 7 then idx (ful L) 5 + 1 else -1
/-- which tone is the seventh, the third, or -1 -/
def svi (F : Fg) : Int := if ¬ idx F 7 = -1 then idx F 7 + 1 else if ¬ idx F 6 = -1 ∧ ¬ idx F 5 = -1 then idx F 5 + 1 else if ¬ idx F 4 = -1 ∧ ¬ idx F 3 = -1 then idx F 3 + 1 else if ¬ idx F 4 = -1 ∧ ¬ idx F 2 = -1 then 0 else -1
def thi (F : Fg) : Int := if ¬ idx F 3 = -1 then idx F 3 + 1 else -1
def clsAt (T : List (Int × Int)) (i : Int) : Int := (T.getD i.toNat (0, 0)).2
def svc (F : Fg) (T : List (Int × Int)) : Int := if svi F = -1 then -1 else clsAt T (svi F)
def thc (F : Fg) (T : List (Int × Int)) : Int := if thi F = -1 ∨ thi F = svi F then -1 else clsAt T (thi F)
