/-! THE WORLD: the machine's heap against the little machine's memory -/
abbrev En : Type := va_G × (Nat → Nat → Nat) × (Nat → ClassId) × Nat
/-- where the cell (g, j) lies -/
def eA (E : En) : Nat → Nat → Nat := E.2.1
def eC (E : En) : Nat → ClassId := E.2.2.1
/-- how large the heap was as the law began: what lies behind is the system's -/
def eZ (E : En) : Nat := E.2.2.2
def Ag (E : En) : Nat → Prop := fun q => eZ E ≤ q
def enc (E : En) (v : Va) : Value := match v with
  | .inl z => .int (i3 z)
  | .inr (.inl q) => .ref (eA E q.1 q.2)
  | .inr (.inr z) => .long (i6 z)
def fvl (E : En) (g j k : Nat) (v : Nat → Int) : Value := match rf g j k with
  | some q => .ref (eA E q.1 q.2)
  | none => .int (i3 (v k))
def mk (E : En) (g j : Nat) (v : Nat → Int) : va_E :=
  if rt g j = 5 then .inr (rc g j, (List.range (rn g j)).map fun k => fvl E g j k v)
  else if rt g j ≤ 1 then .inl (eC E (rt g j), rn g j, .inl fun k => i3 (v k))
  else if rt g j = 4 then .inl (eC E 4, rn g j, .inr (.inl fun k => i6 (v k)))
  else .inl (eC E (rt g j), rn g j, .inr (.inr (.inr (.inr fun k => (rf g j k).map fun q => eA E q.1 q.2))))
def wl (E : En) (σ : Sg) : va_W := RL.map fun q => (eA E q.1 q.2, mk E q.1 q.2 (σ q.1 q.2))
theorem rl_ix {g j : Nat} (h : inR g j = true) : ∃ k : Nat, RL[k]? = some (g, j) := List.getElem?_of_mem (of_decide_eq_true h)
theorem wl_get {E : En} {σ : Sg} {k g j : Nat} (h : RL[k]? = some (g, j)) : (wl E σ)[k]? = some (eA E g j, mk E g j (σ g j)) := by simp [wl, h]
theorem wl_up {E : En} {σ σ' : Sg} {A : Nat → Prop} {k g j : Nat} {e : va_E} (hD : va_D A (wl E σ)) (hk : RL[k]? = some (g, j)) (he : mk E g j (σ' g j) = e) (ho : ∀ g' j', ¬ (g' = g ∧ j' = j) → σ' g' j' = σ g' j') : (wl E σ).set k (eA E g j, e) = wl E σ' := by
  refine List.ext_getElem? fun i => ?_
  rw [List.getElem?_set]
  by_cases hi : k = i
  · subst hi
    have hlt : k < (wl E σ).length := (List.getElem?_eq_some_iff.mp (wl_get hk)).1
    rw [if_pos rfl, if_pos hlt, wl_get hk, he]
  · rw [if_neg hi]
    cases hq : RL[i]? with
    | none => simp [wl, hq]
    | some q =>
      obtain ⟨g', j'⟩ := q
      rw [wl_get hq, wl_get hq, ho g' j']
      rintro ⟨rfl, rfl⟩
      exact hi (hD.1 k i _ _ (wl_get hk) (wl_get hq) rfl)
theorem up_o {σ : Sg} {g j k g' j' : Nat} {z : Int} (h : ¬ (g' = g ∧ j' = j)) : up σ g j k z g' j' = σ g' j' := by
  funext k'
  simp only [up]
  rw [if_neg (fun e => h ⟨e.1, e.2.1⟩)]
theorem up_s {σ : Sg} {g j k : Nat} {z : Int} : up σ g j k z g j = fun k' => if k' = k then z else σ g j k' := by
  funext k'
  simp [up]
theorem mk_o {E : En} {g j : Nat} {v : Nat → Int} (h : rt g j = 5) : mk E g j v = .inr (rc g j, (List.range (rn g j)).map fun k => fvl E g j k v) := by rw [mk, if_pos h]
theorem mk_i {E : En} {g j : Nat} {v : Nat → Int} (h : rt g j = 0) : mk E g j v = .inl (eC E 0, rn g j, .inl fun k => i3 (v k)) := by rw [mk, if_neg (by omega), if_pos (by omega), h]
theorem mk_z {E : En} {g j : Nat} {v : Nat → Int} (h : rt g j = 1) : mk E g j v = .inl (eC E 1, rn g j, .inl fun k => i3 (v k)) := by rw [mk, if_neg (by omega), if_pos (by omega), h]
theorem mk_l {E : En} {g j : Nat} {v : Nat → Int} (h : rt g j = 4) : mk E g j v = .inl (eC E 4, rn g j, .inr (.inl fun k => i6 (v k))) := by rw [mk, if_neg (by omega), if_neg (by omega), if_pos h]
theorem mk_r {E : En} {g j : Nat} {v : Nat → Int} (h : rt g j = 2 ∨ rt g j = 3) : mk E g j v = .inl (eC E (rt g j), rn g j, .inr (.inr (.inr (.inr fun k => (rf g j k).map fun q => eA E q.1 q.2)))) := by rw [mk, if_neg (by omega), if_neg (by omega), if_neg (by omega)]
abbrev tys (E : En) : List (ClassId × FieldType) := [(eC E 0, .int), (eC E 1, .boolean), (eC E 2, .object (cN 3)), (eC E 3, .array .int), (eC E 4, .long)]
def vwC : List vw_C := (List.range nC).map fun ci => (cN ci, cF ci, cn ci)
theorem vwC_get {ci : Nat} (h : ci < nC) : vwC[ci]? = some (cN ci, cF ci, cn ci) := by simp [vwC, h]
/-- what the tables and the statics say, at a method's beginning -/
def Kn (E : En) (U : State) : Prop := va_K E.1 vwC (tys E) U ∧ (∀ j, j < nS → va_Z (cN (sC j)) (sN j) "[I" (.ref (eA E 13 j)) (Ag E) U U.heap ∧ va_T .int (eA E 13 j) (sL j) (fun k => .int (i3 (sV j k))) (Ag E) U U.heap) ∧ (∀ w ∈ NW, va_Nw w U) ∧ eZ E ≤ U.heap.size
/-- the script -/
def Scr (E : En) (σ : Sg) (U : State) : Prop := ∃ (L : Nat) (xs : Nat → Int32), va_X (eA E 12 0) L xs U U.heap ∧ eA E 12 0 < eZ E ∧ σ 12 1 0 = (L : Int) ∧ L < 2 ^ 31 ∧ ∀ j, j < L → xs j = i3 (σ 12 0 j)
/-- the memory in the heap, at a method's beginning or end -/
def St (E : En) (σ : Sg) (U : State) : Prop := va_P E.1 vwC (wl E σ) U.heap ∧ va_D (Ag E) (wl E σ)
/-- the memory in the heap, under way -/
def In (E : En) (σ : Sg) (s : State) (H : Heap) (locs : List Loc) : Prop := va_P E.1 vwC (wl E σ) H ∧ va_D (Ag E) (wl E σ) ∧ va_S (Ag E) s.heap H locs ∧ Scr E σ s
def Lc (E : En) (n : Nat) (ls : Lo) (la : Array Slot) : Prop := ls.length = n ∧ lv_has la n ((prs ls 0).map fun q => (q.1, enc E q.2))
def rmd (d : Nat) : Room := { frames := d + 1, cells := 0, slots := 0, locals := 40 * (d + 1) }
def wsy (y : Nat) : List Cond := Cond.code (mY y) (mB y) (mL y) (mR y) :: WA
/-- where a method stands -/
def Cx (p : Program) (R : Room) (s : State) (m : MethodId) (args : Array Value) (meth : Method) (c : Code) (cells slots : Nat) (E : En) (d y : Nat) : Prop :=
  p.tables.exec = Jvm.exec ∧ c.code = mB y ∧ c.maxLocals = mL y ∧ meth.sig.returnType = mR y ∧ meth.locks = false ∧ s.vm.findClass (cN (mO y)) = some m.cls ∧ (∀ w ∈ WA, w.before args s = true) ∧ Kn E s ∧ d + 1 ≤ R.frames ∧ 40 * (d + 1) ≤ R.locals ∧ cells ≤ R.cells ∧ slots ≤ R.slots
theorem Lc.at {E : En} {n : Nat} {ls : Lo} {la : Array Slot} (h : Lc E n ls la) {i : Nat} {v : Va} (hv : lget ls i = some v) : la[i]? = some (.val (enc E v)) := by
  have h1 := lget_mem ls i 0 hv
  rw [Nat.zero_add] at h1
  exact h.2.2.2 (i, enc E v) (List.mem_map.mpr ⟨(i, v), h1, rfl⟩)
theorem enc_cat {E : En} {v : Va} (h : (enc E v).category = 2) : isLn v = true := by
  rcases v with z | q | z
  · cases h
  · cases h
  · rfl
theorem Lc.set {E : En} {n : Nat} {ls : Lo} {la la' : Array Slot} (h : Lc E n ls la) {i : Nat} {v : Va} (h' : lv_has la' n ((i, enc E v) :: ((prs ls 0).map fun q => (q.1, enc E q.2)).filter (fun q => !(q.1 == i) && !(q.1 + 1 == i && q.2.category == 2)))) : Lc E n (lset ls i v) la' := by
  refine ⟨(lset_len v ls i).trans h.1, h'.1, h'.2.1, fun q hq => ?_⟩
  obtain ⟨⟨k, w⟩, hk, rfl⟩ := List.mem_map.mp hq
  refine h'.2.2 _ ?_
  rcases prs_lset ls i 0 _ hk with e | ⟨h1, h2, h3⟩
  · cases e
    rw [Nat.zero_add]
    exact List.mem_cons_self
  · refine List.mem_cons_of_mem _ (List.mem_filter.mpr ⟨List.mem_map.mpr ⟨(k, w), h1, rfl⟩, ?_⟩)
    rw [Nat.zero_add] at h2 h3
    dsimp only at h2 h3 ⊢
    have a1 : (k == i) = false := by simpa using h2
    rw [a1]
    cases hc : ((enc E w).category == 2) with
    | false => simp
    | true =>
      have := enc_cat (E := E) (v := w) (by simpa using hc)
      have : ¬ k + 1 = i := fun e => h3 ⟨e, this⟩
      simp [this]
theorem Lc.setL {E : En} {n : Nat} {ls : Lo} {la la' : Array Slot} (h : Lc E n ls la) {i : Nat} {v : Va} (h' : lv_has la' n ((i, enc E v) :: ((prs ls 0).map fun q => (q.1, enc E q.2)).filter (fun q => !(q.1 == i) && (!(q.1 == i + 1) && !(q.1 + 1 == i && q.2.category == 2))))) : Lc E n (lsetL ls i v) la' := by
  refine ⟨?_, h'.1, h'.2.1, fun q hq => ?_⟩
  · rw [lsetL, List.length_set, lset_len]
    exact h.1
  obtain ⟨⟨k, w⟩, hk, rfl⟩ := List.mem_map.mp hq
  refine h'.2.2 _ ?_
  obtain ⟨hk, h0⟩ := prs_setN _ _ _ _ hk
  rw [Nat.zero_add] at h0
  rcases prs_lset ls i 0 _ hk with e | ⟨h1, h2, h3⟩
  · cases e
    rw [Nat.zero_add]
    exact List.mem_cons_self
  · refine List.mem_cons_of_mem _ (List.mem_filter.mpr ⟨List.mem_map.mpr ⟨(k, w), h1, rfl⟩, ?_⟩)
    rw [Nat.zero_add] at h2 h3
    dsimp only at h0 h2 h3 ⊢
    have a1 : (k == i) = false := by simpa using h2
    have a2 : (k == i + 1) = false := by simpa using h0
    rw [a1, a2]
    cases hc : ((enc E w).category == 2) with
    | false => simp
    | true =>
      have := enc_cat (E := E) (v := w) (by simpa using hc)
      have : ¬ k + 1 = i := fun e => h3 ⟨e, this⟩
      simp [this]
