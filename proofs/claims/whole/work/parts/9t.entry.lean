/-! AT THE LAW'S ENTRY: what the tables and the start say -/
def gN : List Cond := flatC (Jvm.Cond.and given_1 narrow_1)
theorem xw_in : xW.all (fun w => decide (w ∈ tables_1) || (decide (w = .isRef (.static Bundle.tN "UNASSIGNED_STACK" Bundle.steD)) || decide (w = .isRef (.static Bundle.tN "SUPPRESSED_SENTINEL" Bundle.listD)))) = true := by decide +kernel
theorem xr_in : Cond.isRef (.static Bundle.tN "UNASSIGNED_STACK" Bundle.steD) ∈ gN ∧ Cond.isRef (.static Bundle.tN "SUPPRESSED_SENTINEL" Bundle.listD) ∈ gN := by decide +kernel
theorem xt_in : xT.all (fun q => decide (Cond.stringRef "FiguredBass" q.2.2.2.1 q.2.2.2.2 ∈ tables_1)) = true := by decide +kernel
theorem st_in : (List.range nS).all (fun j => decide (Cond.laysStatic (cN (sC j)) (sN j) "[I" ∈ tables_1) && (decide (Cond.initialized (cN (sC j)) ∈ tables_1) && (decide (Cond.arrayOf (.static (cN (sC j)) (sN j) "[I") .int ∈ gN) && (decide (Cond.eq (.length (.static (cN (sC j)) (sN j) "[I")) (.int (Int32.ofNat (sL j))) ∈ gN) && (List.range (sL j)).all fun k => decide (Cond.eq (.elem (.static (cN (sC j)) (sN j) "[I") (.int (Int32.ofNat k))) (.int (i3 (sV j k))) ∈ gN))))) = true := by decide +kernel
theorem nc_in : ([1, 2, 3] : List Nat).all (fun j => ([1, 2, 3] : List Nat).all fun k => decide (j = k) || decide (Cond.not (.castable (xN j) (xN k)) ∈ gN)) = true := by decide +kernel
/-- the place of a cell in the order of making -/
def IX (g j : Nat) : Nat := if g < 8 then 40 + 12 * g + j else if g = 8 then (if j ≤ 10 then j else if j = 11 then 19 else 16 + j) else if g = 9 then 136 + j else if g = 10 then 11 + j else if g = 11 then 20 + j else 168
section EN
variable {s : State} {b : Nat}
theorem arr_of {cA p : ClassId} {k : Class} {ty : FieldType} (h1 : s.vm.classes[cA]? = some k) (h2 : k.kind = .array p ty) : ArrOfT s cA ty := fun n z => ⟨(fun q h => by cases h), k, h1, p, h2⟩
theorem stat_of (htb : ∀ w ∈ tables_1, w.before #[Value.ref b] s = true) (hgn : ∀ w ∈ gN, w.before #[Value.ref b] s = true) {j : Nat} (hj : j < nS) : ∃ t : Nat, va_Z (cN (sC j)) (sN j) "[I" (.ref t) (fun q => s.heap.size ≤ q) s s.heap ∧ va_T .int t (sL j) (fun k => .int (i3 (sV j k))) (fun q => s.heap.size ≤ q) s s.heap := by
  have h := List.all_eq_true.mp st_in j (List.mem_range.mpr hj)
  simp only [Bool.and_eq_true, decide_eq_true_eq, List.all_eq_true, List.mem_range] at h
  obtain ⟨h1, h2, h3, h4, h5⟩ := h
  have hA : ∀ a : Nat, a < s.heap.size → ¬ s.heap.size ≤ a := fun a h => by omega
  obtain ⟨t, e1, e2⟩ := va_Tof (A := fun q => s.heap.size ≤ q) (f := fun k => .int (i3 (sV j k))) (sL_lt j) (hgn _ h3) (va_eqt (hgn _ h4)) (fun k hk => va_eqt (hgn _ (h5 k hk))) hA
  exact ⟨t, va_Zof (htb _ h1) (htb _ h2) e1 hA, e2⟩
theorem vwC_inv {c : Nat} {q : vw_C} (h : vwC[c]? = some q) : c < 8 ∧ q = (cN c, cF c, cn c) := by
  have hc : c < 8 := by
    have := (List.getElem?_eq_some_iff.mp h).1
    simpa [vwC, nC] using this
  rw [vwC_get hc] at h
  exact ⟨hc, (Option.some.inj h).symm⟩
theorem entry (hts : ∀ w ∈ lw_tbl, w.before #[Value.ref b] s = true) (hgv : (Jvm.Cond.and given_1 narrow_1).before #[Value.ref b] s = true) : ∃ E : En, eZ E = s.heap.size ∧ (∀ k, eA E 20 k = eZ E + k) ∧ (∀ g j, inR g j = true → eA E g j = eZ E + IX g j) ∧ eA E 12 0 = b ∧ Kn E s ∧ K2 E s ∧ KX E s := by
  have htb : ∀ w ∈ tables_1, w.before #[Value.ref b] s = true := fun w hw => hts w (List.mem_append_right _ hw)
  have hwa : ∀ w ∈ WA, w.before #[Value.ref b] s = true := fun w hw => hts w (List.mem_filter.mp hw).1
  have hgn : ∀ w ∈ gN, w.before #[Value.ref b] s = true := flat_of_before _ hgv
  have hc : ∀ ci : Nat, ∃ (cC : ClassId) (iS : Nat → Nat), ci < 8 → u_Kn s (cN ci) (cF ci) (cn ci) cC iS := fun ci => by
    by_cases h : ci < 8
    · obtain ⟨cC, iS, hk⟩ := u_known hwa (cls_ok h) (hwa _ (kw h).2.2.2)
      exact ⟨cC, iS, fun _ => hk⟩
    · exact ⟨0, fun _ => 0, fun h2 => absurd h2 h⟩
  have hst : ∀ j : Nat, ∃ t : Nat, j < nS → va_Z (cN (sC j)) (sN j) "[I" (.ref t) (fun q => s.heap.size ≤ q) s s.heap ∧ va_T .int t (sL j) (fun k => .int (i3 (sV j k))) (fun q => s.heap.size ≤ q) s s.heap := fun j => by
    by_cases h : j < nS
    · obtain ⟨t, ht⟩ := stat_of htb hgn h
      exact ⟨t, fun _ => ht⟩
    · exact ⟨0, fun h2 => absurd h2 h⟩
  obtain ⟨c0, k0, p0, f0, g0, h0⟩ := Cond.arrayClass_spec (hwa _ kx_aI)
  obtain ⟨c1, k1, p1, f1, g1, h1⟩ := Cond.arrayClass_spec (hwa _ kx_aZ)
  obtain ⟨c4, k4, p4, f4, g4, h4⟩ := Cond.arrayClass_spec (hwa _ kx_aL)
  obtain ⟨p2, c2, k2, e2, -, g2, h2, f2⟩ := Cond.arrayOver_spec (htb _ kx_oC)
  obtain ⟨p3, c3, k3, e3, -, g3, h3, f3⟩ := arrayOver_specB (htb _ kx_oI)
  refine ⟨((fun ci => Classical.choose (hc ci), fun ci => Classical.choose (Classical.choose_spec (hc ci))), fun g j => if g = 12 then b else if g = 13 then Classical.choose (hst j) else if g = 20 then s.heap.size + j else s.heap.size + IX g j, fun t => match t with | 0 => c0 | 1 => c1 | 2 => c2 | 3 => c3 | _ => c4, s.heap.size), rfl, fun k => rfl, fun g j h => ?_, rfl, ?_, ?_, ?_⟩
  · have := inR_iff.mp h
    show (if g = 12 then b else if g = 13 then Classical.choose (hst j) else if g = 20 then s.heap.size + j else s.heap.size + IX g j) = s.heap.size + IX g j
    rw [if_neg (by omega), if_neg (by omega), if_neg (by omega)]
  all_goals
    have hK : ∀ {A : Nat → Nat → Nat} {Z : Nat}, va_K (fun ci => Classical.choose (hc ci), fun ci => Classical.choose (Classical.choose_spec (hc ci))) vwC (tys ((fun ci => Classical.choose (hc ci), fun ci => Classical.choose (Classical.choose_spec (hc ci))), A, (fun t => match t with | 0 => c0 | 1 => c1 | 2 => c2 | 3 => c3 | _ => c4), Z)) s := by
      intro A Z
      refine ⟨fun c q hq => ?_, fun k q hq => ?_⟩
      · obtain ⟨h8, rfl⟩ := vwC_inv hq
        exact Classical.choose_spec (Classical.choose_spec (hc c)) h8
      · match k, hq with
        | 0, hq => cases hq; exact ⟨arr_of g0 h0, f0⟩
        | 1, hq => cases hq; exact ⟨arr_of g1 h1, f1⟩
        | 2, hq => cases hq; exact ⟨arr_of g2 h2, k2, p2, g2, h2, e2, f2⟩
        | 3, hq => cases hq; exact ⟨arr_of g3 h3, f3⟩
        | 4, hq => cases hq; exact ⟨arr_of g4 h4, f4⟩
        | k + 5, hq => cases hq
  · refine ⟨hK, fun j hj => ?_, fun w hw => ?_, Nat.le_refl _⟩
    · exact Classical.choose_spec (hst j) hj
    · rcases NW_ok w hw with ⟨a, i, b, n, d, x, rfl⟩ | ⟨a, i, x, g, rfl⟩
      · exact va_Nw.of rfl (htb _ (NW_tab _ hw))
      · exact va_Nw.of rfl (htb _ (NW_tab _ hw))
  · refine ⟨hK, fun w hw => ?_, va_AO.of (htb _ kx_oC), htb _ kx_oI, Nat.le_refl _⟩
    obtain ⟨a, i, x, g, rfl⟩ := NI_ok w hw
    exact va_Nw.of rfl (htb _ (NI_tab _ hw))
  · refine ⟨s, fun w hw => ?_, fun q hq => ?_, fun j k hj hk hn => ?_, State.WarmedH.refl _, Nat.le_refl _, fun a _ => rfl⟩
    · have hb1 : w.before #[Value.ref b] s = true := by
        have h := List.all_eq_true.mp xw_in w hw
        simp only [Bool.or_eq_true, decide_eq_true_eq] at h
        rcases h with h | rfl | rfl
        · exact htb _ h
        · exact hgn _ xr_in.1
        · exact hgn _ xr_in.2
      rcases xW_kinds w hw with h | rfl | rfl | rfl | rfl
      · exact va_tabs h rfl hb1
      · exact hb1
      · exact hb1
      · exact hb1
      · exact hb1
    · have h := List.all_eq_true.mp xt_in q hq
      exact htb _ (of_decide_eq_true h)
    · have h := List.all_eq_true.mp (List.all_eq_true.mp nc_in j (by simp; omega)) k (by simp; omega)
      simp only [Bool.or_eq_true, decide_eq_true_eq] at h
      exact va_Nc.of (hgn _ (h.resolve_left hn))
end EN
