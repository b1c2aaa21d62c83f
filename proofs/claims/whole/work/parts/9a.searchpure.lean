/-! PURE: the search: the first that gives the least; if there is no way then some chord isn't reached -/
section SP2
variable {F : Int} {cn dq kq : Int → Int}
abbrev gdZ (cn kq : Int → Int) (z : Int) : Prop := ¬ cn z = -1 ∧ ¬ kq z = 0
theorem lsS_fst : ∀ (r : Nat) (q : Int) (a : Int × Int), 0 ≤ q → (∀ z : Int, 0 ≤ z → z < q + r → ¬ cn z = -1 → 0 ≤ F + dq z + cn z) → (a.1 = -1 → ∀ z : Int, 0 ≤ z → z < q → ¬ gdZ cn kq z) → (¬ a.1 = -1 → ∀ z : Int, 0 ≤ z → z < q → gdZ cn kq z → a.1 ≤ F + dq z + cn z) → (¬ a.1 = -1 → ∀ z : Int, 0 ≤ z → z < a.2 → gdZ cn kq z → a.1 < F + dq z + cn z) → ((lsS F cn dq kq r q a).1 = -1 → ∀ z : Int, 0 ≤ z → z < q + r → ¬ gdZ cn kq z) ∧ (¬ (lsS F cn dq kq r q a).1 = -1 → ∀ z : Int, 0 ≤ z → z < (lsS F cn dq kq r q a).2 → gdZ cn kq z → (lsS F cn dq kq r q a).1 < F + dq z + cn z)
  | 0, q, a, h0, hn, h1, h2, h3 => ⟨fun e z z0 z1 => h1 e z z0 (by omega), h3⟩
  | r + 1, q, a, h0, hn, h1, h2, h3 => by
    rw [lsS_s, show q + ((r + 1 : Nat) : Int) = (q + 1) + (r : Int) by omega]
    have hn' : ∀ z : Int, 0 ≤ z → z < q + 1 + (r : Int) → ¬ cn z = -1 → 0 ≤ F + dq z + cn z := fun z z0 z1 => hn z z0 (by omega)
    by_cases g : cn q = -1
    · rw [if_pos g]
      refine lsS_fst r (q + 1) a (by omega) hn' (fun e z z0 z1 gz => ?_) (fun e z z0 z1 gz => ?_) h3
      · by_cases hz : z = q
        · subst hz
          exact gz.1 g
        · exact h1 e z z0 (by omega) gz
      · by_cases hz : z = q
        · subst hz
          exact absurd g gz.1
        · exact h2 e z z0 (by omega) gz
    · rw [if_neg g]
      have hv := hn q h0 (by omega) g
      by_cases g2 : (a.1 = -1 ∨ F + dq q + cn q < a.1) ∧ ¬ kq q = 0
      · rw [if_pos g2]
        refine lsS_fst r (q + 1) _ (by omega) hn' (fun e => ?_) (fun e z z0 z1 gz => ?_) (fun e z z0 z1 gz => ?_)
        · dsimp only at e
          omega
        · dsimp only
          by_cases hz : z = q
          · subst hz
            omega
          · by_cases ha : a.1 = -1
            · exact absurd gz (h1 ha z z0 (by omega))
            · have := h2 ha z z0 (by omega) gz
              have := g2.1
              omega
        · dsimp only at z1 ⊢
          by_cases ha : a.1 = -1
          · exact absurd gz (h1 ha z z0 (by omega))
          · have := h2 ha z z0 (by omega) gz
            have := g2.1
            omega
      · rw [if_neg g2]
        refine lsS_fst r (q + 1) a (by omega) hn' (fun e z z0 z1 gz => ?_) (fun e z z0 z1 gz => ?_) h3
        · by_cases hz : z = q
          · subst hz
            exact g2 ⟨Or.inl e, gz.2⟩
          · exact h1 e z z0 (by omega) gz
        · by_cases hz : z = q
          · subst hz
            by_cases g3 : F + dq z + cn z < a.1
            · exact absurd ⟨Or.inr g3, gz.2⟩ g2
            · omega
          · exact h2 e z z0 (by omega) gz
theorem lsS_0 (r : Nat) (hn : ∀ z : Int, 0 ≤ z → z < r → ¬ cn z = -1 → 0 ≤ F + dq z + cn z) : ((lsS F cn dq kq r 0 (-1, 0)).1 = -1 → ∀ z : Int, 0 ≤ z → z < r → ¬ gdZ cn kq z) ∧ (¬ (lsS F cn dq kq r 0 (-1, 0)).1 = -1 → ∀ z : Int, 0 ≤ z → z < (lsS F cn dq kq r 0 (-1, 0)).2 → gdZ cn kq z → (lsS F cn dq kq r 0 (-1, 0)).1 < F + dq z + cn z) := by
  have := lsS_fst (F := F) (cn := cn) (dq := dq) (kq := kq) r 0 (-1, 0) (by omega) (fun z z0 z1 => hn z z0 (by omega)) (fun _ z z0 z1 => by omega) (fun e => absurd rfl e) (fun e => absurd rfl e)
  rw [Int.zero_add] at this
  exact this
theorem chF_has {c : Int → Int} : ∀ (r : Nat) (p b : Int), 0 ≤ p → (b = -1 ∨ 0 ≤ b) → (¬ b = -1 ∨ ∃ z : Int, p ≤ z ∧ z < p + r ∧ ¬ c z = -1) → ¬ chF c r p b = -1
  | 0, p, b, _, _, h => by
    rcases h with h | ⟨z, h1, h2, _⟩
    · exact h
    · omega
  | r + 1, p, b, h0, hb, h => by
    rw [chF_s]
    refine chF_has r (p + 1) _ (by omega) ?_ ?_
    · split
      · exact Or.inr h0
      · exact hb
    · by_cases g : ¬ c p = -1 ∧ (b = -1 ∨ c p < c b)
      · rw [if_pos g]
        exact Or.inl (by omega)
      · rw [if_neg g]
        rcases h with h | ⟨z, h1, h2, h3⟩
        · exact Or.inl h
        · by_cases hb2 : b = -1
          · refine Or.inr ⟨z, ?_, by omega, h3⟩
            by_cases hz : z = p
            · subst hz
              exact absurd ⟨h3, Or.inl hb2⟩ g
            · omega
          · exact Or.inl hb2
theorem anR_ex {g : Int → Int} : ∀ (r : Nat) (p : Int), ¬ anR g r p = 0 → ∃ z : Int, p ≤ z ∧ z < p + r ∧ ¬ g z = 0
  | 0, _, h => absurd rfl h
  | r + 1, p, h => by
    rw [anR_s] at h
    by_cases e : g p = 0
    · rw [if_pos e] at h
      obtain ⟨z, h1, h2, h3⟩ := anR_ex r (p + 1) h
      exact ⟨z, by omega, by omega, h3⟩
    · exact ⟨p, by omega, by omega, e⟩
theorem anR_no {g : Int → Int} : ∀ (r : Nat) (p : Int), (∀ z : Int, p ≤ z → z < p + r → g z = 0) → anR g r p = 0
  | 0, _, _ => rfl
  | r + 1, p, h => by
    rw [anR_s, if_pos (h p (by omega) (by omega))]
    exact anR_no r (p + 1) (fun z z0 z1 => h z (by omega) (by omega))
end SP2
section SP3
variable {σ : Sg} {f mi : Int} {n : Nat} {C : Nat → Cho} {p : Int} {i : Nat}
theorem rS_out {q : Int} (h : ¬ q < nP f C i) : rS f mi C i q = 0 := by
  cases i with
  | zero =>
    show (if q < nP f C 0 then (1 : Int) else 0) = 0
    rw [if_neg h]
  | succ i =>
    show rcS _ _ _ _ q = 0
    unfold rcS
    rw [if_neg h]
theorem an64 (h : nP f C i ≤ 64) : anR (rS f mi C i) 64 0 = 0 ↔ anR (rS f mi C i) (nP f C i) 0 = 0 := by
  constructor
  · intro e
    refine anR_no _ 0 (fun z z0 z1 => ?_)
    by_cases g : rS f mi C i z = 0
    · exact g
    · have : ∀ (r : Nat) (p : Int), p ≤ z → z < p + r → ¬ anR (rS f mi C i) r p = 0 := by
        intro r
        induction r with
        | zero => intro p h1 h2; omega
        | succ r ih =>
          intro p h1 h2
          rw [anR_s]
          by_cases hz : p = z
          · subst hz
            rw [if_neg g]
            omega
          · split
            · exact ih (p + 1) (by omega) (by omega)
            · omega
      exact absurd e (this 64 0 z0 (by omega))
  · intro e
    refine anR_no _ 0 (fun z z0 z1 => ?_)
    by_cases hz : z < nP f C i
    · by_cases g : rS f mi C i z = 0
      · exact g
      · have : ∀ (r : Nat) (p : Int), p ≤ z → z < p + r → ¬ anR (rS f mi C i) r p = 0 := by
          intro r
          induction r with
          | zero => intro p h1 h2; omega
          | succ r ih =>
            intro p h1 h2
            rw [anR_s]
            by_cases hz : p = z
            · subst hz
              rw [if_neg g]
              omega
            · split
              · exact ih (p + 1) (by omega) (by omega)
              · omega
        exact absurd e (this (nP f C i) 0 z0 (by omega))
    · exact rS_out hz
/-- a placement that is reached and from which there's a way to the end: then there's a way from the start -/
theorem way_up (h : SxI σ f mi n C) : ∀ (i : Nat) (q : Int), i < n → 0 ≤ q → q < nP f C i → ¬ rS f mi C i q = 0 → ¬ cS f mi n C i q = -1 → ∃ z : Int, 0 ≤ z ∧ z < nP f C 0 ∧ ¬ cS f mi n C 0 z = -1
  | 0, q, _, q0, q1, _, hc => ⟨q, q0, q1, hc⟩
  | i + 1, q, hi, q0, q1, hr, hc => by
    rw [rS_s q1] at hr
    obtain ⟨p, p0, p1, hp⟩ := anR_ex _ _ hr
    have g1 : ¬ rS f mi C i p = 0 := fun e => hp (if_pos e)
    have g2 : ¬ kP f mi C i p q = 0 := fun e => hp (by rw [if_neg g1]; exact e)
    have f1 := fP_in f mi C i p
    refine way_up h i p (by omega) p0 (by omega) g1 (fun e => ?_)
    have ec : cS f mi n C i p = (lsS (fP f mi C i p) (cS f mi n C (i + 1)) (dP f C i p) (kP f mi C i p) (nP f C (i + 1)) 0 (-1, 0)).1 := by
      unfold cS
      rw [show n - 1 - i = (n - 1 - (i + 1)) + 1 by omega]
      rfl
    rw [ec] at e
    refine (lsS_0 (F := fP f mi C i p) (cn := cS f mi n C (i + 1)) (dq := dP f C i p) (kq := kP f mi C i p) (nP f C (i + 1)) (fun z z0 z1 hz => ?_)).1 e q q0 (by omega) ⟨hc, g2⟩
    have d1 := dP_in h (c := i) (p := p) (q := z) hi ⟨p0, by omega⟩ ⟨z0, z1⟩
    have c1 := cS_in h (c := i + 1) (p := z) hi ⟨z0, z1⟩
    omega
theorem baR_fu (h : SxI σ f mi n C) (hb : bsP f mi n C = -1) : ∀ (r i : Nat), i + r + 1 = n → baR f mi C (r + 1) i = fuR (nP f C) (kP f mi C) r i
  | 0, i, hi => by
    have w : baR f mi C 1 i = if anR (rS f mi C i) (nP f C i) 0 = 0 then i else i + 1 := rfl
    rw [w]
    show _ = i
    by_cases g : anR (rS f mi C i) (nP f C i) 0 = 0
    · rw [if_pos g]
    · exfalso
      obtain ⟨q, q0, q1, hq⟩ := anR_ex _ _ g
      have f1 := fP_in f mi C i q
      obtain ⟨z, z0, z1, hz⟩ := way_up h i q (by omega) q0 (by omega) hq (by
        unfold cS
        rw [show n - 1 - i = 0 by omega]
        show ¬ fP f mi C i q = -1
        omega)
      exact chF_has (c := csP f mi n C) (nP f C 0) 0 (-1) (by omega) (Or.inl rfl) (Or.inr ⟨z, z0, by omega, hz⟩) hb
  | r + 1, i, hi => by
    have w : baR f mi C (r + 1 + 1) i = if anR (rS f mi C i) (nP f C i) 0 = 0 then i else baR f mi C (r + 1) (i + 1) := rfl
    have l1 := (h.2.2.2.2.2.2.2 i (by omega)).2.2.1
    have e : anR (rcA (nP f C) (kP f mi C) i) 64 0 = 0 ↔ anR (rS f mi C i) (nP f C i) 0 = 0 := an64 l1
    rw [w, fuR_s, baR_fu h hb r (i + 1) (by omega)]
    by_cases g : anR (rS f mi C i) (nP f C i) 0 = 0
    · rw [if_pos g, if_pos (e.mpr g)]
    · rw [if_neg g, if_neg (fun q => g (e.mp q))]
/-- the placement that follows -/
abbrev foS (f mi : Int) (n : Nat) (C : Nat → Cho) (i : Nat) : Int → Int := fol (nP f C) (fP f mi C) (dP f C) (kP f mi C) (n - 2 - i) i
theorem foS_in (h : SxI σ f mi n C) (hi : i + 1 < n) (hp : 0 ≤ p ∧ p < nP f C i) (hc : ¬ cS f mi n C i p = -1) : (0 ≤ foS f mi n C i p ∧ foS f mi n C i p < nP f C (i + 1)) ∧ ¬ cS f mi n C (i + 1) (foS f mi n C i p) = -1 ∧ ¬ kP f mi C i p (foS f mi n C i p) = 0 ∧ cS f mi n C i p = fP f mi C i p + dP f C i p (foS f mi n C i p) + cS f mi n C (i + 1) (foS f mi n C i p) ∧ ∀ z : Int, 0 ≤ z → z < foS f mi n C i p → gdZ (cS f mi n C (i + 1)) (kP f mi C i p) z → cS f mi n C i p < fP f mi C i p + dP f C i p z + cS f mi n C (i + 1) z := by
  have f1 := fP_in f mi C i p
  have ec : cS f mi n C i p = (lsS (fP f mi C i p) (cS f mi n C (i + 1)) (dP f C i p) (kP f mi C i p) (nP f C (i + 1)) 0 (-1, 0)).1 := by
    unfold cS
    rw [show n - 1 - i = (n - 1 - (i + 1)) + 1 by omega]
    rfl
  have ef : foS f mi n C i p = (lsS (fP f mi C i p) (cS f mi n C (i + 1)) (dP f C i p) (kP f mi C i p) (nP f C (i + 1)) 0 (-1, 0)).2 := by
    unfold foS cS fol
    rw [show n - 2 - i = n - 1 - (i + 1) by omega]
  have at1 := lsS_at (F := fP f mi C i p) (cn := cS f mi n C (i + 1)) (dq := dP f C i p) (kq := kP f mi C i p) (nP f C (i + 1)) 0 (-1, 0) (by omega) (Or.inl rfl)
  have fs := (lsS_0 (F := fP f mi C i p) (cn := cS f mi n C (i + 1)) (dq := dP f C i p) (kq := kP f mi C i p) (nP f C (i + 1)) (fun z z0 z1 hz => by
    have d1 := dP_in h (c := i) (p := p) (q := z) hi hp ⟨z0, z1⟩
    have c1 := cS_in h (c := i + 1) (p := z) hi ⟨z0, z1⟩
    omega)).2
  rw [← ec, ← ef, Int.zero_add] at at1
  rw [← ec, ← ef] at fs
  rcases at1 with e | ⟨a1, a2, a3, a4, a5⟩
  · exact absurd e hc
  · exact ⟨⟨a1, a2⟩, a3, a4, a5, fs hc⟩
theorem wy_in (h : SxI σ f mi n C) (hb : ¬ bsP f mi n C = -1) : ∀ i, i < n → (0 ≤ wyP f mi n C i ∧ wyP f mi n C i < nP f C i) ∧ ¬ cS f mi n C i (wyP f mi n C i) = -1
  | 0, _ => by
    have := chp_in (csP f mi n C) (nP f C 0)
    have e : wyP f mi n C 0 = bsP f mi n C := rfl
    rw [e]
    rcases this with q | q
    · exact absurd q hb
    · exact ⟨⟨q.1, q.2.1⟩, q.2.2⟩
  | i + 1, hi => by
    have ih := wy_in h hb i (by omega)
    have := foS_in h hi ih.1 ih.2
    exact ⟨this.1, this.2.1⟩
end SP3
