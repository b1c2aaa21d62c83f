/-! THE MEMORY AT THE LOOP'S BEGINNING -/
def ch0 : Nat → Cho := fun _ => (0, 0, -1, [], fun _ => 60)
theorem ci_0 : CI sg0 0 0 1 ch0 none [] := by
  refine ⟨by omega, Or.inl rfl, by omega, ⟨?_, ?_⟩, ?_, fun c hc => ⟨?_, fun p hp => absurd hp List.not_mem_nil, ?_, fun h => absurd rfl h, fun v v0 v1 => ⟨?_, by show (0 : Int) ≤ 60; decide, by show (60 : Int) ≤ 127; decide⟩, Or.inl ⟨rfl, ?_, ?_⟩⟩, ⟨⟨?_, fun t ht => absurd ht (Nat.not_lt_zero t)⟩, by decide⟩, ?_⟩
  · decide +kernel
  · decide +kernel
  · decide +kernel
  · exact (show ∀ c, c < 8 → sg0 c 1 2 = 0 by decide +kernel) c hc
  · exact (show ∀ c, c < 8 → sg0 c 0 9 = -1 by decide +kernel) c hc
  · exact (show ∀ c, c < 8 → ∀ k, k < 3 → sg0 c 11 k = 60 by decide +kernel) c hc v.toNat (by omega)
  · exact (show ∀ c, c < 8 → sg0 c 0 15 = 0 by decide +kernel) c hc
  · exact (show ∀ c, c < 8 → sg0 c 0 17 = 0 by decide +kernel) c hc
  · exact (show sg0 8 15 4 = 0 by decide +kernel)
  · exact (show sg0 8 4 6 = 0 by decide +kernel)
theorem ri_0 : RI sg0 0 0 1 ch0 none [] := by
  refine ⟨⟨?_, ?_, ?_, ?_⟩, by omega, Or.inl rfl, by omega, ?_, ?_, ?_, fun c hc => ⟨⟨?_, by show (0 : Nat) ≤ 3; decide, fun i hi => absurd hi (Nat.not_lt_zero i)⟩, fun p hp => absurd hp List.not_mem_nil, fun v v0 v1 => ⟨?_, by show (0 : Int) ≤ 60; decide, by show (60 : Int) ≤ 127; decide⟩, Or.inl ⟨rfl, ?_⟩⟩, ⟨⟨?_, fun t ht => absurd ht (Nat.not_lt_zero t)⟩, by decide⟩, ?_⟩
  · decide +kernel
  · decide +kernel
  · decide +kernel
  · decide +kernel
  · decide +kernel
  · decide +kernel
  · decide +kernel
  · exact (show ∀ c, c < 8 → sg0 9 8 c = 0 by decide +kernel) c hc
  · exact (show ∀ k, k < 24 → sg0 9 26 k = 60 by decide +kernel) _ (by omega)
  · exact (show ∀ c, c < 8 → sg0 9 5 c = 0 by decide +kernel) c hc
  · exact (show sg0 9 0 36 = 0 by decide +kernel)
  · exact (show sg0 9 0 32 = 0 by decide +kernel)
section BG
variable {E : En} {H : Heap} {s : State} {locs : List Loc} {σ : Sg} {g j : Nat} {c : Ce}
theorem rl_made (h : inR g j = true) : ∃ c, MF[IX g j]? = some c ∧ okCe c g j = true := by
  have h1 := List.all_eq_true.mp ok_M (g, j) (of_decide_eq_true h)
  dsimp only at h1
  cases hc : MF[IX g j]? with
  | none => rw [hc] at h1; cases h1
  | some c =>
    rw [hc] at h1
    exact ⟨c, rfl, h1⟩
theorem sg_at (hg : g < 12) (hc : MF[IX g j]? = some c) (k : Nat) : sg0 g j k = iv2 (rd c k) := by
  unfold sg0
  rw [if_pos hg, List.getD_eq_getElem?_getD, hc]
  rfl
theorem okRf_ok {k : Nat} (h : okRf c g j k = true) : ∃ q, rf g j k = some q ∧ rd c k = some (.inr (IX q.1 q.2)) ∧ inR q.1 q.2 = true := by
  unfold okRf at h
  split at h
  next q hq =>
    simp only [Bool.and_eq_true, decide_eq_true_eq] at h
    exact ⟨q, hq, h.1, h.2⟩
  next => cases h
theorem arrV_cg {cA : ClassId} {n : Nat} {f f' : Nat → Value} (h : ∀ k, k < n → f k = f' k) : arrV cA n f = arrV cA n f' := by
  unfold arrV
  congr 2
  funext i
  exact h i.val i.isLt
theorem rt_lt (h : inR g j = true) (hr : ¬ rt g j = 4) : g < 12 := by
  have := inR_iff.mp h
  by_cases h14 : g = 14
  · subst h14
    exact absurd rfl hr
  · omega
theorem rt_14 (h : inR g j = true) (hr : rt g j = 4) : g = 14 ∧ j = 0 := by
  rcases inR_iff.mp h with ⟨h1, h2⟩ | ⟨rfl, h2⟩ | ⟨rfl, h2⟩ | ⟨rfl, h2⟩ | ⟨rfl, h2⟩ | ⟨rfl, h2⟩
  · have e : rt g j = rtC j := if_pos h1
    rw [e] at hr
    exact absurd hr ((show ∀ j, j < 12 → ¬ rtC j = 4 by decide) j h2)
  · exact absurd hr ((show ∀ j, j < 24 → ¬ rt 8 j = 4 by decide) j h2)
  · exact absurd hr ((show ∀ j, j < 32 → ¬ rt 9 j = 4 by decide) j h2)
  · exact absurd hr (show ¬ (0 : Nat) = 4 by decide)
  · exact absurd hr (show ¬ (0 : Nat) = 4 by decide)
  · exact ⟨rfl, by omega⟩
theorem rt_le (h : inR g j = true) : rt g j ≤ 5 := by
  rcases inR_iff.mp h with ⟨h1, h2⟩ | ⟨rfl, h2⟩ | ⟨rfl, h2⟩ | ⟨rfl, h2⟩ | ⟨rfl, h2⟩ | ⟨rfl, h2⟩
  · have e : rt g j = rtC j := if_pos h1
    rw [e]
    exact (show ∀ j, j < 12 → rtC j ≤ 5 by decide) j h2
  · exact (show ∀ j, j < 24 → rt 8 j ≤ 5 by decide) j h2
  · exact (show ∀ j, j < 32 → rt 9 j ≤ 5 by decide) j h2
  · exact (show (0 : Nat) ≤ 5 by decide)
  · exact (show (0 : Nat) ≤ 5 by decide)
  · exact (show (4 : Nat) ≤ 5 by decide)
theorem at_made (hE : ∀ g j, inR g j = true → eA E g j = eZ E + IX g j) (h : inR g j = true) (hc : MF[IX g j]? = some c) (ho : okCe c g j = true) (hσ : σ g j = sg0 g j) (hat : va_at E.1 vwC (eZ E + IX g j, mk2 E c) H) : va_at E.1 vwC (eA E g j, mk E g j (σ g j)) H := by
  unfold okCe at ho
  rw [Bool.and_eq_true, decide_eq_true_eq] at ho
  obtain ⟨ht, ho⟩ := ho
  rw [hE g j h, hσ]
  have hle := rt_le h
  rcases (by omega : rt g j = 5 ∨ rt g j ≤ 1 ∨ rt g j = 4 ∨ (rt g j = 2 ∨ rt g j = 3)) with h5 | h1 | h4 | h2
  · rw [if_pos h5] at ho
    simp only [Bool.and_eq_true, decide_eq_true_eq, List.all_eq_true, List.mem_range] at ho
    obtain ⟨o1, o2, o3⟩ := ho
    rw [mk2_5 (ht.trans h5)] at hat
    rw [mk_o h5]
    have e : ((List.range (rn g j)).map fun k => fvl E g j k (sg0 g j)) = (List.range (cn c.2.1)).map fun k => en2 E (rd c k) := by
      rw [o1, o2]
      refine List.map_congr_left fun k hk => ?_
      have hk := o3 k (List.mem_range.mp hk)
      rw [Bool.or_eq_true] at hk
      rcases hk with hk | hk
      · obtain ⟨q, q1, q2, q3⟩ := okRf_ok hk
        unfold fvl
        rw [q1, q2]
        exact congrArg Value.ref (hE _ _ q3)
      · simp only [Bool.and_eq_true, decide_eq_true_eq] at hk
        unfold fvl
        rw [hk.1, sg_at (rt_lt h (by omega)) hc]
        obtain ⟨-, hk2⟩ := hk
        cases hv : rd c k with
        | none => rw [hv] at hk2; cases hk2
        | some v =>
          rw [hv] at hk2
          cases v with
          | inl z => rfl
          | inr z => cases hk2
    rw [e, ← o1]
    exact hat
  · rw [if_neg (by omega), Bool.and_eq_true, decide_eq_true_eq] at ho
    rw [mk2_i (by omega), ht, ho.1] at hat
    have e : mk E g j (sg0 g j) = .inl (eC E (rt g j), rn g j, .inl fun k => i3 (sg0 g j k)) := by rw [mk, if_neg (by omega), if_pos h1]
    rw [e]
    have e2 : (fun k => i3 (sg0 g j k)) = fun k => i3 (iv2 (rd c k)) := funext fun k => by rw [sg_at (rt_lt h (by omega)) hc]
    rw [e2]
    exact hat
  · obtain ⟨rfl, rfl⟩ := rt_14 h h4
    have e9 : (MF[IX 14 0]?).any (fun c => eqM [c] [(4, 1, [])]) = true := by decide +kernel
    rw [hc] at e9
    have e0 : [c] = [(4, 1, [])] := eqM_ok e9
    cases e0
    rw [mk2_4 rfl] at hat
    rw [mk_l h4]
    exact hat
  · rw [if_neg (by omega), if_pos h2, Bool.and_eq_true, decide_eq_true_eq] at ho
    obtain ⟨o1, o2⟩ := ho
    simp only [List.all_eq_true, List.mem_range] at o2
    rw [mk2_r (by omega), ht, o1] at hat
    rw [mk_r h2]
    have hat : H[eZ E + IX g j]? = some (vp_cell (eC E (rt g j)) (rn g j, .inr (.inr (.inr (.inr fun k => rv2 E (rd c k)))))) := hat
    show H[eZ E + IX g j]? = some (vp_cell (eC E (rt g j)) (rn g j, .inr (.inr (.inr (.inr fun k => (rf g j k).map fun q => eA E q.1 q.2)))))
    rw [hat, vp_cell_q, vp_cell_q]
    refine congrArg some (arrV_cg fun k hk => ?_)
    obtain ⟨q, q1, q2, q3⟩ := okRf_ok (o2 k hk)
    rw [q1, q2]
    show va_rf (some (eZ E + IX q.1 q.2)) = va_rf (some (eA E q.1 q.2))
    rw [hE _ _ q3]
theorem in_made (hE : ∀ g j, inR g j = true → eA E g j = eZ E + IX g j) (I : I2 E MF s H locs) (hS : Scr E σ s) (hσ : ∀ g, ¬ g = 12 → σ g = sg0 g) : In E σ s H locs := by
  have key : ∀ (k : Nat) (x : Nat × va_E), (wl E σ)[k]? = some x → ∃ g j, RL[k]? = some (g, j) ∧ inR g j = true ∧ x = (eA E g j, mk E g j (σ g j)) := fun k x hx => by
    unfold wl at hx
    rw [List.getElem?_map] at hx
    cases hq : RL[k]? with
    | none => rw [hq] at hx; cases hx
    | some q =>
      rw [hq] at hx
      obtain ⟨g, j⟩ := q
      exact ⟨g, j, rfl, decide_eq_true (List.mem_of_getElem? hq), (Option.some.inj hx).symm⟩
  refine ⟨fun k x hx => ?_, ⟨fun i i' x y hi hj hxy => ?_, fun k x hx => ?_⟩, I.2.2, hS⟩
  · obtain ⟨g, j, -, h, rfl⟩ := key k x hx
    obtain ⟨c, hc, ho⟩ := rl_made h
    exact at_made hE h hc ho (by rw [hσ g (rl_12 h)]) (I.1 _ _ (w2_get hc))
  · obtain ⟨g, j, h1, h, rfl⟩ := key i x hi
    obtain ⟨g', j', h1', h', rfl⟩ := key i' y hj
    have e : eA E g j = eA E g' j' := hxy
    rw [hE g j h, hE g' j' h'] at e
    have e : IX g j = IX g' j' := by omega
    have hl : i < (RL.map fun q => IX q.1 q.2).length := by
      rw [List.length_map]
      exact (List.getElem?_eq_some_iff.mp h1).1
    refine (List.getElem?_inj hl ix_nd).mp ?_
    rw [List.getElem?_map, List.getElem?_map, h1, h1']
    exact congrArg some e
  · obtain ⟨g, j, -, h, rfl⟩ := key k x hx
    show eZ E ≤ eA E g j
    rw [hE g j h]
    exact Nat.le_add_right _ _
end BG
