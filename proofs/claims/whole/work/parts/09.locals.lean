/-! LOCALS: the machine's own against the little machine's -/
def prs : Lo → Nat → List (Nat × Va)
  | [], _ => []
  | none :: t, i => prs t (i + 1)
  | some v :: t, i => (i, v) :: prs t (i + 1)
theorem lget_mem {v : Va} : ∀ (ls : Lo) (i b : Nat), lget ls i = some v → (b + i, v) ∈ prs ls b
  | [], _, _, h => by cases h
  | none :: _, 0, _, h => by cases h
  | some w :: t, 0, b, h => by
    cases h
    exact List.mem_cons_self
  | none :: t, i + 1, b, h => by
    have := lget_mem t i (b + 1) h
    rw [show b + (i + 1) = b + 1 + i by omega]
    exact this
  | some w :: t, i + 1, b, h => by
    have := lget_mem t i (b + 1) h
    rw [show b + (i + 1) = b + 1 + i by omega]
    exact List.mem_cons_of_mem _ this
theorem prs_ge : ∀ (ls : Lo) (b : Nat) (q : Nat × Va), q ∈ prs ls b → b ≤ q.1
  | [], _, _, h => by cases h
  | none :: t, b, q, h => by
    have := prs_ge t (b + 1) q h
    omega
  | some w :: t, b, q, h => by
    rcases List.mem_cons.mp h with rfl | h
    · exact Nat.le_refl _
    · have := prs_ge t (b + 1) q h
      omega
theorem clr_some {i : Nat} {x : Option Va} {v : Va} (h : clr i x = some v) : x = some v ∧ ¬ (i = 0 ∧ isLn v = true) := by
  rcases x with _ | (z | q | z)
  · cases i <;> cases h
  · cases i <;> (cases h; exact ⟨rfl, fun h => by cases h.2⟩)
  · cases i <;> (cases h; exact ⟨rfl, fun h => by cases h.2⟩)
  · cases i with
    | zero => cases h
    | succ i => cases h; exact ⟨rfl, fun h => by cases h.1⟩
theorem prs_lset {v : Va} : ∀ (ls : Lo) (i b : Nat) (q : Nat × Va), q ∈ prs (lset ls i v) b → q = (b + i, v) ∨ (q ∈ prs ls b ∧ q.1 ≠ b + i ∧ ¬ (q.1 + 1 = b + i ∧ isLn q.2 = true))
  | [], _, _, _, h => by cases h
  | x :: t, 0, b, q, h => by
    rcases List.mem_cons.mp (show q ∈ (b, v) :: prs t (b + 1) from h) with rfl | h5
    · exact Or.inl rfl
    · have hg := prs_ge _ _ _ h5
      refine Or.inr ⟨?_, by omega, fun e => by omega⟩
      cases x with
      | none => exact h5
      | some w => exact List.mem_cons_of_mem _ h5
  | x :: t, i + 1, b, q, h => by
    replace h : q ∈ prs (clr i x :: lset t i v) b := h
    have key : q ∈ prs (lset t i v) (b + 1) → q = (b + (i + 1), v) ∨ (q ∈ prs (x :: t) b ∧ q.1 ≠ b + (i + 1) ∧ ¬ (q.1 + 1 = b + (i + 1) ∧ isLn q.2 = true)) := by
      intro h
      rcases prs_lset t i (b + 1) q h with e | ⟨h1, h2, h3⟩
      · exact Or.inl (by rw [e, show b + (i + 1) = b + 1 + i by omega])
      · refine Or.inr ⟨?_, by omega, fun e => h3 ⟨by omega, e.2⟩⟩
        cases x with
        | none => exact h1
        | some w => exact List.mem_cons_of_mem _ h1
    cases hc : clr i x with
    | none =>
      rw [hc] at h
      exact key h
    | some w =>
      rw [hc] at h
      obtain ⟨rfl, hn⟩ := clr_some hc
      rcases List.mem_cons.mp (show q ∈ (b, w) :: prs (lset t i v) (b + 1) from h) with rfl | h
      · refine Or.inr ⟨List.mem_cons_self, by dsimp only; omega, fun e => hn ⟨?_, e.2⟩⟩
        have := e.1
        dsimp only at this
        omega
      · exact key h
theorem lset_len (v : Va) : ∀ (ls : Lo) (i : Nat), (lset ls i v).length = ls.length
  | [], _ => rfl
  | _ :: _, 0 => rfl
  | _ :: t, i + 1 => congrArg (· + 1) (lset_len v t i)
theorem prs_none : ∀ (n b : Nat), prs (List.replicate n none) b = []
  | 0, _ => rfl
  | n + 1, b => prs_none n (b + 1)
theorem prs_setN : ∀ (ls : Lo) (i b : Nat) (q : Nat × Va), q ∈ prs (ls.set i none) b → q ∈ prs ls b ∧ q.1 ≠ b + i
  | [], _, _, _, h => by cases h
  | x :: t, 0, b, q, h => by
    replace h : q ∈ prs t (b + 1) := h
    have hg := prs_ge _ _ _ h
    refine ⟨?_, by omega⟩
    cases x with
    | none => exact h
    | some w => exact List.mem_cons_of_mem _ h
  | none :: t, i + 1, b, q, h => by
    obtain ⟨h1, h2⟩ := prs_setN t i (b + 1) q h
    exact ⟨h1, by omega⟩
  | some w :: t, i + 1, b, q, h => by
    rcases List.mem_cons.mp (show q ∈ (b, w) :: prs (t.set i none) (b + 1) from h) with rfl | h
    · exact ⟨List.mem_cons_self, by dsimp only; omega⟩
    · obtain ⟨h1, h2⟩ := prs_setN t i (b + 1) q h
      exact ⟨List.mem_cons_of_mem _ h1, by omega⟩
