/-! THE LAW'S HELPERS: what the class throws is caught there -/
def xL (k : Nat) : Nat := match k with
  | 1 => 13
  | 2 => 27
  | _ => 33
/-- the rows of a helper's table: exception, end of the guarded code, answer, the handler's pc, its local -/
def hR (y : Nat) : List (Nat × Nat × Nat × Nat × Nat) := match y with
  | 130 => [(1, 6, 1, 9, 3)]
  | 131 => [(1, 5, 1, 8, 2)]
  | 132 => [(1, 14, 1, 17, 6)]
  | 133 => [(1, 12, 1, 15, 5), (2, 12, 2, 19, 5)]
  | 134 => [(1, 10, 1, 13, 4), (2, 10, 2, 17, 4), (3, 10, 3, 21, 4)]
  | 135 => [(1, 9, 1, 12, 3), (2, 9, 2, 15, 3)]
  | 136 => [(1, 12, 1, 15, 5), (2, 12, 2, 19, 5), (3, 12, 3, 23, 5)]
  | 137 => [(2, 8, 1, 11, 2)]
  | 138 => [(1, 10, 1, 13, 4), (2, 10, 2, 17, 4)]
  | 139 => [(1, 9, 1, 12, 3), (2, 9, 2, 15, 3)]
  | 140 => [(1, 7, 1, 10, 4)]
  | 141 => [(2, 8, 1, 11, 2)]
  | 142 => [(3, 10, 1, 13, 4), (1, 10, 2, 17, 4)]
  | _ => []
def hX (y : Nat) : List (Nat × Nat × Nat × Nat) := (hR y).map fun r => (0, r.2.1, r.2.2.2.1, xL r.1)
def hsP (y : Nat) (r : Nat × Nat × Nat × Nat × Nat) : Prop := (r.1 = 1 ∨ r.1 = 2 ∨ r.1 = 3) ∧ r.2.2.2.2 < mL y ∧ ((decode (mB y) r.2.2.2.1 = .ok (.astore r.2.2.2.2, 2) ∧ decode (mB y) (r.2.2.2.1 + 2) = .ok (.iconst (r.2.2.1 : Int), 1) ∧ decode (mB y) (r.2.2.2.1 + 3) = .ok (.ireturn, 1)) ∨ (∃ k : Fin 4, (k : Nat) = r.2.2.2.2 ∧ decode (mB y) r.2.2.2.1 = .ok (.astore_n k, 1) ∧ decode (mB y) (r.2.2.2.1 + 1) = .ok (.iconst (r.2.2.1 : Int), 1) ∧ decode (mB y) (r.2.2.2.1 + 2) = .ok (.ireturn, 1)))
def hyP (y : Nat) : Prop := (mO y = 8 ∧ mR y = some .int) ∧ hT y = (hR y).map (fun r => (r.1, r.2.1, r.2.2.1)) ∧ (∀ r ∈ hR y, hsP y r) ∧ Cond.codeWith (mY y) (mB y) (mL y) (mR y) (hX y) ∈ WA ∧ Cond.static (mY y) ∈ WA ∧ (mN y ≤ mL y ∧ mL y ≤ 20) ∧ plainFor (mY y) = true ∧ (mY y).cls = "FiguredBassLaw" ∧ (parseMethodDescriptor (mY y).desc).map (fun d => d.parameters.length) = some (mN y)
theorem hy_130 : hyP 130 := ⟨⟨rfl, rfl⟩, rfl, List.forall_mem_cons.mpr ⟨⟨by decide, by decide, Or.inr ⟨3, rfl, by decide +kernel, by decide +kernel, by decide +kernel⟩⟩, fun _ h => absurd h List.not_mem_nil⟩, by decide +kernel, by decide +kernel, ⟨by decide, by decide⟩, by decide +kernel, rfl, by decide +kernel⟩
theorem hy_131 : hyP 131 := ⟨⟨rfl, rfl⟩, rfl, List.forall_mem_cons.mpr ⟨⟨by decide, by decide, Or.inr ⟨2, rfl, by decide +kernel, by decide +kernel, by decide +kernel⟩⟩, fun _ h => absurd h List.not_mem_nil⟩, by decide +kernel, by decide +kernel, ⟨by decide, by decide⟩, by decide +kernel, rfl, by decide +kernel⟩
theorem hy_132 : hyP 132 := ⟨⟨rfl, rfl⟩, rfl, List.forall_mem_cons.mpr ⟨⟨by decide, by decide, Or.inl ⟨by decide +kernel, by decide +kernel, by decide +kernel⟩⟩, fun _ h => absurd h List.not_mem_nil⟩, by decide +kernel, by decide +kernel, ⟨by decide, by decide⟩, by decide +kernel, rfl, by decide +kernel⟩
theorem hy_133 : hyP 133 := ⟨⟨rfl, rfl⟩, rfl, List.forall_mem_cons.mpr ⟨⟨by decide, by decide, Or.inl ⟨by decide +kernel, by decide +kernel, by decide +kernel⟩⟩, List.forall_mem_cons.mpr ⟨⟨by decide, by decide, Or.inl ⟨by decide +kernel, by decide +kernel, by decide +kernel⟩⟩, fun _ h => absurd h List.not_mem_nil⟩⟩, by decide +kernel, by decide +kernel, ⟨by decide, by decide⟩, by decide +kernel, rfl, by decide +kernel⟩
theorem hy_134 : hyP 134 := ⟨⟨rfl, rfl⟩, rfl, List.forall_mem_cons.mpr ⟨⟨by decide, by decide, Or.inl ⟨by decide +kernel, by decide +kernel, by decide +kernel⟩⟩, List.forall_mem_cons.mpr ⟨⟨by decide, by decide, Or.inl ⟨by decide +kernel, by decide +kernel, by decide +kernel⟩⟩, List.forall_mem_cons.mpr ⟨⟨by decide, by decide, Or.inl ⟨by decide +kernel, by decide +kernel, by decide +kernel⟩⟩, fun _ h => absurd h List.not_mem_nil⟩⟩⟩, by decide +kernel, by decide +kernel, ⟨by decide, by decide⟩, by decide +kernel, rfl, by decide +kernel⟩
theorem hy_135 : hyP 135 := ⟨⟨rfl, rfl⟩, rfl, List.forall_mem_cons.mpr ⟨⟨by decide, by decide, Or.inr ⟨3, rfl, by decide +kernel, by decide +kernel, by decide +kernel⟩⟩, List.forall_mem_cons.mpr ⟨⟨by decide, by decide, Or.inr ⟨3, rfl, by decide +kernel, by decide +kernel, by decide +kernel⟩⟩, fun _ h => absurd h List.not_mem_nil⟩⟩, by decide +kernel, by decide +kernel, ⟨by decide, by decide⟩, by decide +kernel, rfl, by decide +kernel⟩
theorem hy_136 : hyP 136 := ⟨⟨rfl, rfl⟩, rfl, List.forall_mem_cons.mpr ⟨⟨by decide, by decide, Or.inl ⟨by decide +kernel, by decide +kernel, by decide +kernel⟩⟩, List.forall_mem_cons.mpr ⟨⟨by decide, by decide, Or.inl ⟨by decide +kernel, by decide +kernel, by decide +kernel⟩⟩, List.forall_mem_cons.mpr ⟨⟨by decide, by decide, Or.inl ⟨by decide +kernel, by decide +kernel, by decide +kernel⟩⟩, fun _ h => absurd h List.not_mem_nil⟩⟩⟩, by decide +kernel, by decide +kernel, ⟨by decide, by decide⟩, by decide +kernel, rfl, by decide +kernel⟩
theorem hy_137 : hyP 137 := ⟨⟨rfl, rfl⟩, rfl, List.forall_mem_cons.mpr ⟨⟨by decide, by decide, Or.inr ⟨2, rfl, by decide +kernel, by decide +kernel, by decide +kernel⟩⟩, fun _ h => absurd h List.not_mem_nil⟩, by decide +kernel, by decide +kernel, ⟨by decide, by decide⟩, by decide +kernel, rfl, by decide +kernel⟩
theorem hy_138 : hyP 138 := ⟨⟨rfl, rfl⟩, rfl, List.forall_mem_cons.mpr ⟨⟨by decide, by decide, Or.inl ⟨by decide +kernel, by decide +kernel, by decide +kernel⟩⟩, List.forall_mem_cons.mpr ⟨⟨by decide, by decide, Or.inl ⟨by decide +kernel, by decide +kernel, by decide +kernel⟩⟩, fun _ h => absurd h List.not_mem_nil⟩⟩, by decide +kernel, by decide +kernel, ⟨by decide, by decide⟩, by decide +kernel, rfl, by decide +kernel⟩
theorem hy_139 : hyP 139 := ⟨⟨rfl, rfl⟩, rfl, List.forall_mem_cons.mpr ⟨⟨by decide, by decide, Or.inr ⟨3, rfl, by decide +kernel, by decide +kernel, by decide +kernel⟩⟩, List.forall_mem_cons.mpr ⟨⟨by decide, by decide, Or.inr ⟨3, rfl, by decide +kernel, by decide +kernel, by decide +kernel⟩⟩, fun _ h => absurd h List.not_mem_nil⟩⟩, by decide +kernel, by decide +kernel, ⟨by decide, by decide⟩, by decide +kernel, rfl, by decide +kernel⟩
theorem hy_140 : hyP 140 := ⟨⟨rfl, rfl⟩, rfl, List.forall_mem_cons.mpr ⟨⟨by decide, by decide, Or.inl ⟨by decide +kernel, by decide +kernel, by decide +kernel⟩⟩, fun _ h => absurd h List.not_mem_nil⟩, by decide +kernel, by decide +kernel, ⟨by decide, by decide⟩, by decide +kernel, rfl, by decide +kernel⟩
theorem hy_141 : hyP 141 := ⟨⟨rfl, rfl⟩, rfl, List.forall_mem_cons.mpr ⟨⟨by decide, by decide, Or.inr ⟨2, rfl, by decide +kernel, by decide +kernel, by decide +kernel⟩⟩, fun _ h => absurd h List.not_mem_nil⟩, by decide +kernel, by decide +kernel, ⟨by decide, by decide⟩, by decide +kernel, rfl, by decide +kernel⟩
theorem hy_142 : hyP 142 := ⟨⟨rfl, rfl⟩, rfl, List.forall_mem_cons.mpr ⟨⟨by decide, by decide, Or.inl ⟨by decide +kernel, by decide +kernel, by decide +kernel⟩⟩, List.forall_mem_cons.mpr ⟨⟨by decide, by decide, Or.inl ⟨by decide +kernel, by decide +kernel, by decide +kernel⟩⟩, fun _ h => absurd h List.not_mem_nil⟩⟩, by decide +kernel, by decide +kernel, ⟨by decide, by decide⟩, by decide +kernel, rfl, by decide +kernel⟩
theorem hy_ok {y : Nat} (h1 : 130 ≤ y) (h2 : y < 143) : hyP y := by
  have : y = 130 ∨ y = 131 ∨ y = 132 ∨ y = 133 ∨ y = 134 ∨ y = 135 ∨ y = 136 ∨ y = 137 ∨ y = 138 ∨ y = 139 ∨ y = 140 ∨ y = 141 ∨ y = 142 := by omega
  rcases this with rfl | rfl | rfl | rfl | rfl | rfl | rfl | rfl | rfl | rfl | rfl | rfl | rfl
  · exact hy_130
  · exact hy_131
  · exact hy_132
  · exact hy_133
  · exact hy_134
  · exact hy_135
  · exact hy_136
  · exact hy_137
  · exact hy_138
  · exact hy_139
  · exact hy_140
  · exact hy_141
  · exact hy_142
theorem hl_ok {k y : Nat} (h : hl k = some y) : Cond.methodLink "FiguredBassLaw" k (mY y) ∈ WA := by
  unfold hl at h
  split at h
  · cases h; decide +kernel
  · cases h; decide +kernel
  · cases h; decide +kernel
  · cases h; decide +kernel
  · cases h; decide +kernel
  · cases h; decide +kernel
  · cases h; decide +kernel
  · cases h; decide +kernel
  · cases h; decide +kernel
  · cases h; decide +kernel
  · cases h; decide +kernel
  · cases h; decide +kernel
  · cases h; decide +kernel
  · cases h
theorem li_ok : Cond.initialized "FiguredBassLaw" ∈ WA := by decide +kernel
theorem lc_ok {k : Nat} (h : k = 1 ∨ k = 2 ∨ k = 3) : Cond.classLink "FiguredBassLaw" (xL k) (xN k) ∈ WA := by
  rcases h with rfl | rfl | rfl <;> decide +kernel
theorem xc_in {k : Nat} (h : k = 1 ∨ k = 2 ∨ k = 3) : Cond.castable (xN k) (xN k) ∈ xW := by
  rcases h with rfl | rfl | rfl <;> decide +kernel
theorem xL_ne (k : Nat) : ¬ xL k = 0 := by
  unfold xL
  split <;> decide
/-- the row that catches -/
theorem hnd_at {y pc k r : Nat} (hy : hyP y) (h : hnd y pc k = some r) : ∃ (pre : List (Nat × Nat × Nat × Nat × Nat)) (w : Nat × Nat × Nat × Nat × Nat) (suf : List (Nat × Nat × Nat × Nat × Nat)), hR y = pre ++ w :: suf ∧ w.1 = k ∧ pc < w.2.1 ∧ w.2.2.1 = r ∧ ∀ z ∈ pre, ¬ (z.1 = k ∧ pc < z.2.1) := by
  unfold hnd at h
  rw [hy.2.1, List.find?_map] at h
  cases hf : (hR y).find? ((fun r => r.1 == k && decide (pc < r.2.1)) ∘ fun r => (r.1, r.2.1, r.2.2.1)) with
  | none => rw [hf] at h; cases h
  | some w =>
    rw [hf] at h
    cases h
    obtain ⟨h1, pre, suf, h2, h3⟩ := List.find?_eq_some_iff_append.mp hf
    simp only [Function.comp, Bool.and_eq_true, beq_iff_eq, decide_eq_true_eq] at h1
    refine ⟨pre, w, suf, h2, h1.1, h1.2, rfl, fun z hz q => ?_⟩
    have := h3 z hz
    simp [q.1, q.2] at this
theorem wl_15 {E : En} {σ : Sg} {z : Int} : wl E (up σ 15 0 0 z) = wl E σ := by
  unfold wl
  refine List.map_congr_left (fun q hq => ?_)
  have h : inR q.1 q.2 = true := decide_eq_true hq
  have := inR_iff.mp h
  rw [up_o (by omega)]
section HC
variable {p : Program} {l : Launch} {e : Env} {R : Room} {s : State} {m : MethodId} {args : Array Value} {below : List Frame} {meth : Method} {c : Code} {H : Heap} {locs : List Loc} {cells slots : Nat} {Q : State → Prop} {E : En} {d y pc pc' : Nat} {σ σ1 σ2 : Sg} {la : Array Slot} {rest : List Value} {ls ls' : Lo} {st st' as : List Va} {y' k : Nat} {v : Option Va}
theorem q_catch (hy : hyP y) (C : Cx p R s m args meth c 0 0 E d y) (hX1 : KX E s) (htab : c.exceptionTable.toList.map (fun h => (h.startPc, h.endPc, h.handlerPc, h.catchType)) = hX y) (L : Lc E (mL y) ls la) {r : Nat} (hh : hnd y pc k = some r) {T : State} {q : Addr} {ce : Cell} (X : Stand p l e R s m args below meth c T locs 1 6) (hce : T.heap[q]? = some ce) (hcv : ce.vm = .none) (hcl : s.vm.findClass (xN k) = some ce.cls) (I : In E σ2 s T.heap locs) : ∃ t, Steps p.tables e below ((T.setTop (F0 m pc la rest)).pushFrame (.throwing q)) t ∧ MQ below (Qx E (some (vi (r : Int))) (up σ2 15 0 0 (σ2 15 0 0 + 1))) args s 1 6 (Ag E) t := by
  obtain ⟨hx, hb, hml, hr, hlk, hown, hts, hK, hR1, hR2, hc1, hc2⟩ := C
  rw [hy.1.1] at hown
  have hown : s.vm.findClass "FiguredBassLaw" = some m.cls := hown
  obtain ⟨pre, w, suf, e1, e2, e3, e4, e5⟩ := hnd_at hy hh
  have hw := hy.2.2.1 w (by rw [e1]; simp)
  obtain ⟨k3, wl1, wcode⟩ := hw
  have k3' := k3
  rw [e2] at k3
  have hpl : e.platform.magicAccessors = ({} : Platform).magicAccessors := by rw [X.admits.platform]
  unfold hX at htab
  rw [e1, List.map_append, List.map_cons] at htab
  obtain ⟨tp, tr, t1, t2, t3⟩ := List.map_eq_append_iff.mp htab
  obtain ⟨x, tsuf, t4, t5, t6⟩ := List.map_eq_cons_iff.mp t3
  have ex1 : x.startPc = 0 ∧ x.endPc = w.2.1 ∧ x.handlerPc = w.2.2.2.1 ∧ x.catchType = xL w.1 := by
    simp only [Prod.mk.injEq] at t5
    exact t5
  have links : ∀ {j : Nat}, (j = 1 ∨ j = 2 ∨ j = 3) → ∃ c6, s.vm.findClass (xN j) = some c6 ∧ s.vm.ClassLinks e.platform m.cls (xL j) c6 := fun hj => by
    obtain ⟨c6, h1, h2⟩ := Cond.classLink_spec hown (hts _ (lc_ok hj)) e.platform hpl
    exact ⟨c6, h1, h2⟩
  obtain ⟨c3, c4, hc3, hc4, hasg⟩ := Cond.castable_spec (hX1.word (args := args) (xc_in k3))
  cases Option.some.inj (hc3.symm.trans hcl)
  obtain ⟨c5, hc5, hcl5⟩ := links k3
  cases Option.some.inj (hc4.symm.trans hc5)
  obtain ⟨vm', X', st⟩ := X.thenCaughtThrough q (g := F0 m pc la rest) rfl (Steps.refl _) hce (by rw [hcv]; rfl) (by obtain ⟨k9, h9, -⟩ := Vm.findClass_spec hcl; exact ⟨k9, h9⟩) tp x tsuf (by rw [t1, t4])
    (fun z hz => by
      have hz2 : (z.startPc, z.endPc, z.handlerPc, z.catchType) ∈ pre.map (fun r => (0, r.2.1, r.2.2.2.1, xL r.1)) := by
        rw [← t2]
        exact List.mem_map.mpr ⟨z, hz, rfl⟩
      obtain ⟨z0, hz0, ez⟩ := List.mem_map.mp hz2
      simp only [Prod.mk.injEq] at ez
      by_cases hp : pc < z0.2.1
      · have hne : ¬ k = z0.1 := fun h => e5 z0 hz0 ⟨h.symm, hp⟩
        have z3 := (hy.2.2.1 z0 (by rw [e1]; simp [hz0])).1
        obtain ⟨c6, hc6, hcl6⟩ := links z3
        obtain ⟨a8, b8, y1, y2, y3⟩ := hX1.no k3 z3 hne
        cases Option.some.inj (y1.symm.trans hcl)
        cases Option.some.inj (y2.symm.trans hc6)
        exact Or.inr ⟨by rw [← ez.2.2.2]; exact xL_ne _, _, by rw [← ez.2.2.2]; exact hcl6, y3⟩
      · refine Or.inl ?_
        show (decide (z.startPc ≤ pc) && decide (pc < z.endPc)) = false
        rw [← ez.2.1, decide_eq_false hp, Bool.and_false]) (by
      show (decide (x.startPc ≤ pc) && decide (pc < x.endPc)) = true
      rw [ex1.1, ex1.2.1, decide_eq_true e3, decide_eq_true (Nat.zero_le _)]
      rfl) (Or.inr ⟨by rw [ex1.2.2.2]; exact xL_ne _, _, by rw [ex1.2.2.2, e2]; exact hcl5, hasg⟩)
  have hP : va_P E.1 vwC (wl E (up σ2 15 0 0 (σ2 15 0 0 + 1))) T.heap := by rw [wl_15]; exact I.1
  have hD : va_D (Ag E) (wl E (up σ2 15 0 0 (σ2 15 0 0 + 1))) := by rw [wl_15]; exact I.2.1
  have fin : ∀ (pc : Nat) (la' : Array Slot), decode (mB y) pc = .ok (.ireturn, 1) → W p l e R s m args below meth c T.heap locs 1 6 (MQ below (Qx E (some (vi (r : Int))) (up σ2 15 0 0 (σ2 15 0 0 + 1))) args s 1 6 (Ag E)) (F0 m pc la' [.int (i3 (r : Int))]) := fun pc la' hd => W.iret hx hb (hr.trans hy.1.2) (fun t ht hW => ⟨⟨rfl, by rw [St, ht]; exact ⟨hP, hD⟩⟩, I.2.2.1.F ht⟩) I.2.2.1.2.2 hd
  have K : W p l e R s m args below meth c T.heap locs 1 6 (MQ below (Qx E (some (vi (r : Int))) (up σ2 15 0 0 (σ2 15 0 0 + 1))) args s 1 6 (Ag E)) (F0 m w.2.2.2.1 la [.ref q]) := by
    rcases wcode with ⟨d1, d2, d3⟩ | ⟨kf, hkf, d1, d2, d3⟩
    · refine lv_astore hx hb d1 L.2 wl1 rfl (fun la' _ => ?_)
      refine lv_iconst hx hb d2 rfl ?_
      rw [e4]
      exact fin _ _ d3
    · refine lv_astore_n hx hb d1 hkf L.2 wl1 rfl (fun la' _ => ?_)
      refine lv_iconst hx hb d2 rfl ?_
      rw [e4]
      exact fin _ _ d3
  obtain ⟨t, a1, b1⟩ := K (T.setVm vm') rfl X'
  refine ⟨t, st.trans ?_, b1⟩
  rw [ex1.2.2.1]
  exact a1
end HC
