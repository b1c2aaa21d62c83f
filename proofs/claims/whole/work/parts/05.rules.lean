/-! THE RULES: what a run comes to, an instruction at a time -/
theorem ex_s (n d y pc : Nat) (ls : Lo) (st : List Va) (σ : Sg) : ex (n + 1) d y pc ls st σ = (match stp y pc ls st σ with
    | none => none
    | some (.inl (pc', ls', st', σ')) => ex n d y pc' ls' st' σ'
    | some (.inr (.inl r)) => some r
    | some (.inr (.inr (y', as, pc', ls', st', σ'))) => match d with
      | 0 => none
      | d' + 1 => match ex n d' y' 0 (ini y' as) [] σ' with
        | none => none
        | some (.inl v, σ2) => ex n (d' + 1) y pc' ls' (v.toList ++ st') σ2
        | some (.inr q, σ2) => (match hnd y pc q with
          | some r => some (.inl (some (vi r)), up σ2 15 0 0 (σ2 15 0 0 + 1))
          | none => some (.inr q, σ2))) := rfl
theorem ex_mono1 : ∀ (n d y pc : Nat) (ls : Lo) (st : List Va) (σ : Sg) (x : Rs × Sg), ex n d y pc ls st σ = some x → ex (n + 1) d y pc ls st σ = some x := by
  intro n
  induction n with
  | zero => intro d y pc ls st σ x h; cases h
  | succ n ih =>
    intro d y pc ls st σ x h
    rw [ex_s] at h ⊢
    cases hs : stp y pc ls st σ with
    | none => rw [hs] at h; cases h
    | some a =>
      rw [hs] at h
      rcases a with ⟨pc', ls', st', σ'⟩ | r | ⟨y', as, pc', ls', st', σ'⟩
      · exact ih _ _ _ _ _ _ _ h
      · exact h
      · cases d with
        | zero => cases h
        | succ d' =>
          dsimp only at h ⊢
          cases hc : ex n d' y' 0 (ini y' as) [] σ' with
          | none => rw [hc] at h; cases h
          | some q =>
            rw [hc] at h
            rw [ih _ _ _ _ _ _ _ hc]
            rcases q with ⟨v | q, σ2⟩
            · exact ih _ _ _ _ _ _ _ h
            · exact h
theorem ex_mono {n k d y pc : Nat} {ls : Lo} {st : List Va} {σ : Sg} {x : Rs × Sg} (h : ex n d y pc ls st σ = some x) (hk : n ≤ k) : ex k d y pc ls st σ = some x := by
  obtain ⟨j, rfl⟩ := Nat.exists_eq_add_of_le hk
  clear hk
  induction j with
  | zero => exact h
  | succ j ih => exact ex_mono1 _ _ _ _ _ _ _ _ ih
theorem ex_det {n k d y pc : Nat} {ls : Lo} {st : List Va} {σ : Sg} {x z : Rs × Sg} (h : ex n d y pc ls st σ = some x) (h2 : ex k d y pc ls st σ = some z) : x = z := by
  have a := ex_mono h (Nat.le_max_left n k)
  have b := ex_mono h2 (Nat.le_max_right n k)
  exact Option.some.inj (a.symm.trans b)
/-- from here the run ends, and Q holds of its end -/
def Wx (d y pc : Nat) (ls : Lo) (st : List Va) (σ : Sg) (Q : Rs → Sg → Prop) : Prop := ∃ (n : Nat) (r : Rs) (σ' : Sg), ex n d y pc ls st σ = some (r, σ') ∧ Q r σ'
abbrev Wm (d y : Nat) (as : List Va) (σ : Sg) (Q : Rs → Sg → Prop) : Prop := Wx d y 0 (ini y as) [] σ Q
/-- the method y ends so -/
def Rn (d y : Nat) (as : List Va) (σ : Sg) (r : Rs) (σ' : Sg) : Prop := ∃ n : Nat, ex n d y 0 (ini y as) [] σ = some (r, σ')
section RU
variable {d y pc pc' : Nat} {ls ls' : Lo} {st st' : List Va} {σ σ' : Sg} {Q : Rs → Sg → Prop}
theorem Rn.iff {as : List Va} {r : Rs} (h : Rn d y as σ r σ') : Wm d y as σ Q ↔ Q r σ' := by
  obtain ⟨n, h⟩ := h
  constructor
  · rintro ⟨k, r2, σ2, h1, h2⟩
    have e := ex_det h h1
    cases e
    exact h2
  · intro hq
    exact ⟨n, r, σ', h, hq⟩
theorem Rn.of {as : List Va} {r : Rs} (h : Wm d y as σ (fun r2 σ2 => r2 = r ∧ σ2 = σ')) : Rn d y as σ r σ' := by
  obtain ⟨n, r2, σ2, h1, rfl, rfl⟩ := h
  exact ⟨n, h1⟩
theorem Wm.run {as : List Va} (h : Wm d y as σ Q) : ∃ (r : Rs) (σ2 : Sg), Rn d y as σ r σ2 ∧ Q r σ2 := by
  obtain ⟨n, r2, σ2, h1, h2⟩ := h
  exact ⟨r2, σ2, ⟨n, h1⟩, h2⟩
theorem Wx.mono {Q2 : Rs → Sg → Prop} (h : Wx d y pc ls st σ Q) (hq : ∀ r σ2, Q r σ2 → Q2 r σ2) : Wx d y pc ls st σ Q2 := by
  obtain ⟨n, r2, σ2, h1, h2⟩ := h
  exact ⟨n, r2, σ2, h1, hq _ _ h2⟩
theorem Wx_go (h : stp y pc ls st σ = some (.inl (pc', ls', st', σ'))) : Wx d y pc ls st σ Q ↔ Wx d y pc' ls' st' σ' Q := by
  constructor
  · rintro ⟨n, r, s2, h1, h2⟩
    cases n with
    | zero => cases h1
    | succ n =>
      rw [ex_s, h] at h1
      exact ⟨n, r, s2, h1, h2⟩
  · rintro ⟨n, r, s2, h1, h2⟩
    refine ⟨n + 1, r, s2, ?_, h2⟩
    rw [ex_s, h]
    exact h1
theorem Wx_none (h : stp y pc ls st σ = none) : Wx d y pc ls st σ Q ↔ False := by
  constructor
  · rintro ⟨n, r, s2, h1, h2⟩
    cases n with
    | zero => cases h1
    | succ n =>
      rw [ex_s, h] at h1
      cases h1
  · exact False.elim
theorem Wx_fin {r : Rs} (h : stp y pc ls st σ = some (.inr (.inl (r, σ')))) : Wx d y pc ls st σ Q ↔ Q r σ' := by
  constructor
  · rintro ⟨n, r, s2, h1, h2⟩
    cases n with
    | zero => cases h1
    | succ n =>
      rw [ex_s, h] at h1
      cases h1
      exact h2
  · intro hq
    exact ⟨1, r, σ', by rw [ex_s, h], hq⟩
theorem Wx_cal {y' : Nat} {as : List Va} (h : stp y pc ls st σ = some (.inr (.inr (y', as, pc', ls', st', σ')))) : Wx (d + 1) y pc ls st σ Q ↔ Wm d y' as σ' (fun r σ2 => match r with
    | .inl v => Wx (d + 1) y pc' ls' (v.toList ++ st') σ2 Q
    | .inr q => (match hnd y pc q with
      | some r => Q (.inl (some (vi r))) (up σ2 15 0 0 (σ2 15 0 0 + 1))
      | none => Q (.inr q) σ2)) := by
  constructor
  · rintro ⟨n, r, s2, h1, h2⟩
    cases n with
    | zero => cases h1
    | succ n =>
      rw [ex_s, h] at h1
      dsimp only at h1
      cases hc : ex n d y' 0 (ini y' as) [] σ' with
      | none => rw [hc] at h1; cases h1
      | some q =>
        rw [hc] at h1
        rcases q with ⟨v | q, σ2⟩
        · exact ⟨n, _, σ2, hc, ⟨n, r, s2, h1, h2⟩⟩
        · refine ⟨n, _, _, hc, ?_⟩
          dsimp only at h1 ⊢
          cases hh : hnd y pc q with
          | none =>
            rw [hh] at h1
            cases h1
            exact h2
          | some w =>
            rw [hh] at h1
            cases h1
            exact h2
  · rintro ⟨n, r, σ2, h1, h2⟩
    rcases r with v | q
    · obtain ⟨k, r, s2, h3, h4⟩ := h2
      refine ⟨max n k + 1, r, s2, ?_, h4⟩
      rw [ex_s, h]
      dsimp only
      rw [ex_mono h1 (Nat.le_max_left n k)]
      exact ex_mono h3 (Nat.le_max_right n k)
    · dsimp only at h2
      cases hh : hnd y pc q with
      | none =>
        rw [hh] at h2
        refine ⟨n + 1, .inr q, σ2, ?_, h2⟩
        rw [ex_s, h]
        dsimp only
        rw [h1]
        dsimp only
        rw [hh]
      | some w =>
        rw [hh] at h2
        refine ⟨n + 1, _, _, ?_, h2⟩
        rw [ex_s, h]
        dsimp only
        rw [h1]
        dsimp only
        rw [hh]
end RU
