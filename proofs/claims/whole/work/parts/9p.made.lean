/-! THE SECOND LITTLE MACHINE's cells in the heap -/
def en2 (E : En) (v : V2) : Value := match v with
  | none => .null
  | some (.inl z) => .int (i3 z)
  | some (.inr k) => .ref (eZ E + k)
def iv2 (v : V2) : Int := match v with
  | some (.inl z) => z
  | _ => 0
def rv2 (E : En) (v : V2) : Option Nat := match v with
  | some (.inr k) => some (eZ E + k)
  | _ => none
def mk2 (E : En) (c : Ce) : va_E :=
  if c.1 = 5 then .inr (c.2.1, (List.range (cn c.2.1)).map fun k => en2 E (rd c k))
  else if c.1 ≤ 1 then .inl (eC E c.1, c.2.1, .inl fun k => i3 (iv2 (rd c k)))
  else if c.1 = 4 then .inl (eC E 4, c.2.1, .inr (.inl fun k => i6 (iv2 (rd c k))))
  else .inl (eC E c.1, c.2.1, .inr (.inr (.inr (.inr fun k => rv2 E (rd c k)))))
def w2 (E : En) (M : Me) : va_W := M.mapIdx fun k c => (eZ E + k, mk2 E c)
section MD
variable {E : En} {M : Me} {c : Ce} {k : Nat}
theorem rd_wr (c : Ce) (k j : Nat) (v : V2) : rd (wr c k v) j = if j = k then v else rd c j := by
  unfold rd wr
  rw [List.find?_cons]
  by_cases h : j = k
  · subst h
    simp
  · have : (k == j) = false := by simpa using fun e => h e.symm
    rw [if_neg h]
    simp only [this]
    rfl
theorem mk2_5 (h : c.1 = 5) : mk2 E c = .inr (c.2.1, (List.range (cn c.2.1)).map fun k => en2 E (rd c k)) := by rw [mk2, if_pos h]
theorem mk2_i (h : c.1 ≤ 1) : mk2 E c = .inl (eC E c.1, c.2.1, .inl fun k => i3 (iv2 (rd c k))) := by rw [mk2, if_neg (by omega), if_pos h]
theorem mk2_4 (h : c.1 = 4) : mk2 E c = .inl (eC E 4, c.2.1, .inr (.inl fun k => i6 (iv2 (rd c k)))) := by rw [mk2, if_neg (by omega), if_neg (by omega), if_pos h]
theorem mk2_r (h : c.1 = 2 ∨ c.1 = 3) : mk2 E c = .inl (eC E c.1, c.2.1, .inr (.inr (.inr (.inr fun k => rv2 E (rd c k))))) := by rw [mk2, if_neg (by omega), if_neg (by omega), if_neg (by omega)]
theorem w2_get (h : M[k]? = some c) : (w2 E M)[k]? = some (eZ E + k, mk2 E c) := by
  rw [w2, List.getElem?_mapIdx, h]
  rfl
theorem w2_inv {x : Nat × va_E} (h : (w2 E M)[k]? = some x) : ∃ c, M[k]? = some c ∧ x = (eZ E + k, mk2 E c) := by
  rw [w2, List.getElem?_mapIdx] at h
  cases hm : M[k]? with
  | none => rw [hm] at h; cases h
  | some c =>
    rw [hm] at h
    exact ⟨c, rfl, (Option.some.inj h).symm⟩
theorem w2_len : (w2 E M).length = M.length := by rw [w2, List.length_mapIdx]
theorem w2_D : va_D (Ag E) (w2 E M) := by
  refine ⟨fun i j x y hi hj hxy => ?_, fun k x hx => ?_⟩
  · obtain ⟨c1, -, rfl⟩ := w2_inv hi
    obtain ⟨c2, -, rfl⟩ := w2_inv hj
    have h : eZ E + i = eZ E + j := hxy
    omega
  · obtain ⟨c1, -, rfl⟩ := w2_inv hx
    exact Nat.le_add_right _ _
theorem w2_set (c : Ce) (h : k < M.length) : (w2 E M).set k (eZ E + k, mk2 E c) = w2 E (M.set k c) := by
  refine List.ext_getElem? fun i => ?_
  rw [List.getElem?_set, w2, w2, List.getElem?_mapIdx, List.getElem?_mapIdx, List.getElem?_set, List.length_mapIdx]
  by_cases hi : k = i
  · subst hi
    rw [if_pos rfl, if_pos rfl, if_pos h, if_pos h]
    rfl
  · rw [if_neg hi, if_neg hi]
theorem ss_set {M : Me} {k : Nat} {c c' : Ce} (h : M[k]? = some c) (hs : sz2 c' = sz2 c) : ss (M.set k c') = ss M := by
  unfold ss
  congr 1
  refine List.ext_getElem? fun i => ?_
  rw [List.getElem?_map, List.getElem?_map, List.getElem?_set]
  by_cases hi : k = i
  · subst hi
    rw [if_pos rfl, if_pos (List.getElem?_eq_some_iff.mp h).1, h]
    show some _ = some _
    rw [hs]
  · rw [if_neg hi]
theorem ss_app (M N : Me) : ss (M ++ N) = ss M + ss N := by simp [ss]
theorem ss_rows (a b n : Nat) : ss (rows2 a b n) = a + a * b ∧ (rows2 a b n).length = 1 + a := by
  unfold rows2 ss
  simp [sz2]
  omega
/-- the cells that were made, in the heap -/
def I2 (E : En) (M : Me) (s : State) (H : Heap) (locs : List Loc) : Prop := va_P E.1 vwC (w2 E M) H ∧ H.size = eZ E + M.length ∧ va_S (Ag E) s.heap H locs
/-- what the tables say -/
def K2 (E : En) (U : State) : Prop := va_K E.1 vwC (tys E) U ∧ (∀ w ∈ NI, va_Nw w U) ∧ va_AO "FiguredBass$Chord" U ∧ (Cond.arrayOver (.array .int)).before #[] U = true ∧ eZ E ≤ U.heap.size
theorem I2.app {s : State} {H H1 : Heap} {locs : List Loc} {N : Me} (I : I2 E M s H locs) (hs : eZ E ≤ s.heap.size) (hz : H1.size = H.size + N.length) (ho : ∀ q : Nat, q < H.size → H1[q]? = H[q]?) (hn : ∀ (k : Nat) (c : Ce), N[k]? = some c → va_at E.1 vwC (eZ E + (M.length + k), mk2 E c) H1) : I2 E (M ++ N) s H1 locs := by
  obtain ⟨p1, p2, p3⟩ := I
  refine ⟨fun k x hx => ?_, by rw [hz, p2, List.length_append]; omega, ⟨Nat.le_trans p3.1 (by omega), fun q h1 h2 => (ho q (Nat.lt_of_lt_of_le h1 p3.1)).trans (p3.2.1 q h1 h2), p3.2.2⟩⟩
  obtain ⟨c, hc, rfl⟩ := w2_inv hx
  by_cases hk : k < M.length
  · rw [List.getElem?_append_left hk] at hc
    have h1 := p1 k _ (w2_get (E := E) hc)
    refine h1.kept (ho _ ?_)
    show eZ E + k < H.size
    omega
  · rw [List.getElem?_append_right (by omega)] at hc
    have h1 := hn _ c hc
    rw [show M.length + (k - M.length) = k by omega] at h1
    exact h1
end MD
section MX
variable {p : Program} {l : Launch} {e : Env} {R : Room} {s : State} {m : MethodId} {args : Array Value} {below : List Frame} {meth : Method} {c : Code} {H : Heap} {locs : List Loc} {cells slots : Nat} {Q : State → Prop} {E : En} {d o pc pc' : Nat} {la : Array Slot} {rest : List Value} {ls ls' : Lo} {st st' : List Va} {M M' : Me}
theorem W_sz {g : JFrame} (k : H.size ≤ s.heap.size + cells → W p l e R s m args below meth c H locs cells slots Q g) : W p l e R s m args below meth c H locs cells slots Q g := fun T hT X => k (by rw [← hT]; exact X.same.2.2.1) T hT X
/-- behind a store -/
theorem I2.put {H1 : Heap} {locs1 : List Loc} {k : Nat} {x : Ce} (I : I2 E M s H locs) (hz : s.heap.size + cells = eZ E + M.length) (hk : k < M.length) (h1 : va_P E.1 vwC ((w2 E M).set k (eZ E + k, mk2 E x)) H1) (h2 : va_S (Ag E) H H1 locs1) (h3 : H1.size ≤ s.heap.size + cells) : I2 E (M.set k x) s H1 locs1 := by
  obtain ⟨p1, p2, p3⟩ := I
  rw [w2_set _ hk] at h1
  have := h2.1
  exact ⟨h1, by rw [List.length_set]; omega, ⟨Nat.le_trans p3.1 h2.1, fun q g1 g2 => (h2.2.1 q (Nat.lt_of_lt_of_le g1 p3.1) g2).trans (p3.2.1 q g1 g2), h2.2.2⟩⟩
theorem I2.S (I : I2 E M s H locs) : va_S (Ag E) H H locs := ⟨Nat.le_refl _, fun _ _ _ => rfl, I.2.2.2.2⟩
/-- where a constructor stands -/
def C2 (p : Program) (R : Room) (s : State) (m : MethodId) (args : Array Value) (meth : Method) (c : Code) (E : En) (d o : Nat) : Prop :=
  p.tables.exec = Jvm.exec ∧ c.code = kB o ∧ c.maxLocals = kLo o ∧ meth.sig.returnType = none ∧ meth.locks = false ∧ s.vm.findClass (cN o) = some m.cls ∧ (∀ w ∈ WA, w.before args s = true) ∧ K2 E s ∧ d + 1 ≤ R.frames ∧ 40 * (d + 1) ≤ R.locals ∧ meth.name = "<init>" ∧ o < 8
theorem i3_nn {z : Int} (h0 : 0 ≤ z) (h1 : z ≤ 4000) : ¬ i3 z < 0 ∧ (i3 z).toNatClampNeg = z.toNat := by
  obtain ⟨h, h2⟩ := i3_in (n := 4001) h0 (by omega) (by decide)
  exact ⟨fun q => h (Or.inl q), h2⟩
theorem x_newa {cc : ByteArray} {t : ArrayType} {w : Nat} {z : Int} (hx : p.tables.exec = Jvm.exec) (hb : c.code = cc) (hts : ∀ w ∈ WA, w.before args s = true) (hK : K2 E s) (I : I2 E M s H locs) (ht : at2 t = some w) (h0 : 0 ≤ z) (h1 : z ≤ 4000) (r1 : cells + 1 ≤ R.cells) (r2 : slots + z.toNat ≤ R.slots) (hd : decode cc pc = .ok (.newarray t, 2))
    (kk : ∀ H', I2 E (M ++ [(w, z.toNat, [])]) s H' locs → W p l e R s m args below meth c H' locs (cells + 1) (slots + z.toNat) Q (F0 m (pc + 2) la (.ref (eZ E + M.length) :: rest))) : W p l e R s m args below meth c H locs cells slots Q (F0 m pc la (.int (i3 z) :: rest)) := by
  obtain ⟨n1, n2⟩ := i3_nn h0 h1
  have harr : (Cond.arrayClass (newarray.typeOf t)).before args s = true := by
    cases t <;> first | exact hts _ kx_aI | exact hts _ kx_aZ | exact hts _ kx_aL | cases ht
  have hby : z.toNat * componentBytes (newarray.typeOf t) ≤ 536870912 := by
    cases t <;> simp [newarray.typeOf, componentBytes] <;> omega
  refine va_newaK hx hb harr rfl hd rfl n1 n2 hby r1 r2 I.2.1 fun H1 cA e1 z1 o1 hAr hNm => ?_
  refine kk H1 (I.app hK.2.2.2.2 (by rw [z1, I.2.1]; rfl) (fun q hq => o1 q (by rw [← I.2.1]; exact hq)) (fun k x hx => ?_))
  have h0 : k < 1 := (List.getElem?_eq_some_iff.mp hx).1
  rw [show k = 0 by omega] at hx ⊢
  cases hx
  rw [Nat.add_zero]
  cases t <;> first | (cases ht; done) | skip
  · cases ht
    have e2 : eC E 1 = cA := Option.some.inj (((hK.1.2 1 _ rfl).2).symm.trans hNm)
    rw [mk2_i (Nat.le_of_ble_eq_true rfl)]
    show H1[_]? = some (vp_cell (eC E 1) _)
    rw [e1, vp_cell_i, e2]
    rfl
  · cases ht
    have e2 : eC E 0 = cA := Option.some.inj (((hK.1.2 0 _ rfl).2).symm.trans hNm)
    rw [mk2_i (Nat.le_of_ble_eq_true rfl)]
    show H1[_]? = some (vp_cell (eC E 0) _)
    rw [e1, vp_cell_i, e2]
    rfl
  · cases ht
    have e2 : eC E 4 = cA := Option.some.inj (((hK.1.2 4 _ rfl).2).symm.trans hNm)
    rw [mk2_4 rfl]
    show H1[_]? = some (vp_cell (eC E 4) _)
    rw [e1, vp_cell_l, e2]
    rfl
theorem x_anew {cc : ByteArray} {z : Int} (hx : p.tables.exec = Jvm.exec) (hb : c.code = cc) (hown : s.vm.findClass "FiguredBass" = some m.cls) (hts : ∀ w ∈ WA, w.before args s = true) (hK : K2 E s) (I : I2 E M s H locs) (h0 : 0 ≤ z) (h1 : z ≤ 4000) (r1 : cells + 1 ≤ R.cells) (r2 : slots + z.toNat ≤ R.slots) (hd : decode cc pc = .ok (.anewarray 16, 3))
    (kk : ∀ H', I2 E (M ++ [(2, z.toNat, [])]) s H' locs → W p l e R s m args below meth c H' locs (cells + 1) (slots + z.toNat) Q (F0 m (pc + 3) la (.ref (eZ E + M.length) :: rest))) : W p l e R s m args below meth c H locs cells slots Q (F0 m pc la (.int (i3 z) :: rest)) := by
  obtain ⟨n1, n2⟩ := i3_nn h0 h1
  refine W.anew hx hb hown (hts _ kx_lC) (va_AO.use hK.2.2.1) rfl hd rfl n1 (by rw [n2]; omega) r1 (by rw [n2]; exact r2) fun cA kA comp f1 f2 f3 f4 => ?_
  rw [n2, I.2.1]
  generalize hH1 : H.push ({ cls := cA, slots := Array.replicate z.toNat .null, vm := .none } : Cell) = H1
  have z1 : H1.size = H.size + 1 := by rw [← hH1, Array.size_push]
  have e1 : H1[H.size]? = some (arrV cA z.toNat (fun _ => .null)) := by rw [← hH1, Array.getElem?_push_size, ← arrV_new]
  have o1 : ∀ q : Nat, q < H.size → H1[q]? = H[q]? := fun q hq => by rw [← hH1, Array.getElem?_push, if_neg (Nat.ne_of_lt hq)]
  refine kk H1 (I.app hK.2.2.2.2 z1 o1 (fun k x hx => ?_))
  have h0 : k < 1 := (List.getElem?_eq_some_iff.mp hx).1
  rw [show k = 0 by omega] at hx ⊢
  cases hx
  rw [Nat.add_zero]
  obtain ⟨kA', comp', -, -, -, g4⟩ := (hK.1.2 2 _ rfl).2
  have e2 : eC E 2 = cA := Option.some.inj (g4.symm.trans f1)
  rw [mk2_r (Or.inl rfl)]
  show H1[_]? = some (vp_cell (eC E 2) _)
  rw [← I.2.1, e1, vp_cell_q, e2]
  rfl
theorem outerV (cA : ClassId) (N h0 : Nat) : ∀ i : Nat, Jvm.Free.Multi.outerC cA N h0 i = arrV cA N (fun j => if j < i then .ref (h0 + 1 + j) else .null)
  | 0 => by
    show ({ cls := cA, slots := Array.replicate N .null, vm := .none } : Cell) = _
    rw [arrV_new]
    congr 1
  | i + 1 => by
    show (Jvm.Free.Multi.outerC cA N h0 i).setSlot i (.ref (h0 + 1 + i)) = _
    rw [outerV cA N h0 i, arrV_store]
    congr 1
    funext j
    unfold updV
    by_cases e1 : j = i
    · subst e1
      simp
    · by_cases e2 : j < i
      · simp [e1, e2, Nat.lt_succ_of_lt e2]
      · simp [e1, e2, show ¬ j < i + 1 by omega]
theorem rd_rows {a n j : Nat} : rd (3, a, (List.range a).map fun j => (j, some (.inr (n + 1 + j)))) j = if j < a then some (.inr (n + 1 + j)) else none := by
  unfold rd
  by_cases h : j < a
  · have : ((List.range a).map fun j => (j, (some (.inr (n + 1 + j)) : V2))).find? (fun q => q.1 == j) = some (j, some (.inr (n + 1 + j))) := by
      rw [List.find?_map]
      have : (List.range a).find? ((fun q : Nat × V2 => q.1 == j) ∘ fun j => (j, some (.inr (n + 1 + j)))) = some j := by
        rw [List.find?_range_eq_some]
        refine ⟨by simp, by simpa using h, fun k hk => by simpa using Nat.ne_of_lt hk⟩
      rw [this]
      rfl
    rw [this, if_pos h]
  · have : ((List.range a).map fun j => (j, (some (.inr (n + 1 + j)) : V2))).find? (fun q => q.1 == j) = none := by
      rw [List.find?_eq_none]
      intro q hq
      obtain ⟨k, hk, rfl⟩ := List.mem_map.mp hq
      have := List.mem_range.mp hk
      simp
      omega
    rw [this, if_neg h]
    rfl
theorem x_mna {cc : ByteArray} {a b : Int} (hx : p.tables.exec = Jvm.exec) (hb : c.code = cc) (hown : s.vm.findClass "FiguredBass$Realisation" = some m.cls) (hts : ∀ w ∈ WA, w.before args s = true) (hK : K2 E s) (I : I2 E M s H locs) (h0 : 0 ≤ a ∧ a ≤ 100) (h1 : 0 ≤ b ∧ b ≤ 100) (r1 : cells + (1 + a.toNat) ≤ R.cells) (r2 : slots + (a.toNat + a.toNat * b.toNat) ≤ R.slots) (hd : decode cc pc = .ok (.multianewarray 20 2, 4))
    (kk : ∀ H', I2 E (M ++ rows2 a.toNat b.toNat M.length) s H' locs → W p l e R s m args below meth c H' locs (cells + (1 + a.toNat)) (slots + (a.toNat + a.toNat * b.toNat)) Q (F0 m (pc + 4) la (.ref (eZ E + M.length) :: rest))) : W p l e R s m args below meth c H locs cells slots Q (F0 m pc la (.int (i3 b) :: .int (i3 a) :: rest)) := by
  obtain ⟨n1, n2⟩ := i3_nn h0.1 (by omega)
  obtain ⟨m1, m2⟩ := i3_nn h1.1 (by omega)
  intro T hT X
  obtain ⟨vm₁, cA, comp, -, fA, fC, -, -, X', step⟩ := X.multianewarray2F hx (own := "FiguredBass$Realisation") (index := 20) (ty := .int) hown (hts _ kx_lA) (show (Cond.arrayOver (.array .int)).before args s = true from hK.2.2.2.1) (hts _ kx_aI) (g := F0 m pc la (.int (i3 b) :: .int (i3 a) :: rest)) rfl (by rw [hb]; exact hd) rfl n1 m1 (by rw [n2]; omega) (by rw [m2]; simp [componentBytes]; omega) (by rw [m2]; omega) rfl rfl (by rw [n2]; exact r1) (by rw [n2, m2]; exact r2)
  rw [n2, m2] at X' step
  have e0 : eC E 0 = comp := Option.some.inj (((hK.1.2 0 _ rfl).2).symm.trans fC)
  have e3 : eC E 3 = cA := Option.some.inj (((hK.1.2 3 _ rfl).2).symm.trans fA)
  have hTh : (T.setVm vm₁).heap = H := hT
  obtain ⟨f1, f2, -, -⟩ := Jvm.Free.Multi.fill_facts (T.setVm vm₁) cA comp a.toNat b.toNat (defaultValue .int) a.toNat
  have hold : ∀ q : Nat, q < H.size → (Jvm.Free.Multi.fill (T.setVm vm₁) cA comp a.toNat b.toNat (defaultValue .int) a.toNat).heap[q]? = H[q]? := fun q hq => by
    have := Jvm.Free.Multi.fill_old (T.setVm vm₁) cA comp a.toNat b.toNat (defaultValue .int) (a := q) (by rw [hTh]; exact hq) a.toNat
    rw [hTh] at this
    exact this
  have hrow : ∀ j : Nat, j < a.toNat → (Jvm.Free.Multi.fill (T.setVm vm₁) cA comp a.toNat b.toNat (defaultValue .int) a.toNat).heap[H.size + 1 + j]? = some (Jvm.Free.Multi.innerC comp b.toNat (defaultValue .int)) := fun j hj => by
    have := Jvm.Free.Multi.fill_inner (T.setVm vm₁) cA comp a.toNat b.toNat (defaultValue .int) a.toNat j hj
    rw [hTh] at this
    exact this
  rw [hTh] at f1 f2
  have hI : I2 E (M ++ rows2 a.toNat b.toNat M.length) s (Jvm.Free.Multi.fill (T.setVm vm₁) cA comp a.toNat b.toNat (defaultValue .int) a.toNat).heap locs := by
    refine I.app hK.2.2.2.2 (by rw [f1, (ss_rows _ _ _).2]; omega) hold (fun k x hx => ?_)
    cases k with
    | zero =>
      cases hx
      rw [Nat.add_zero, ← I.2.1, mk2_r (Or.inr rfl)]
      show (Jvm.Free.Multi.fill (T.setVm vm₁) cA comp a.toNat b.toNat (defaultValue .int) a.toNat).heap[H.size]? = some (vp_cell (eC E 3) _)
      rw [f2, vp_cell_q, e3, outerV]
      refine congrArg some (congrArg (arrV cA a.toNat) (funext fun j => ?_))
      rw [rd_rows]
      by_cases h : j < a.toNat
      · rw [if_pos h, if_pos h]
        show Value.ref (H.size + 1 + j) = Value.ref (eZ E + (M.length + 1 + j))
        have e9 : (H.size + 1 + j : Nat) = eZ E + (M.length + 1 + j) := by have := I.2.1; omega
        exact congrArg Value.ref e9
      · rw [if_neg h, if_neg h]
        rfl
    | succ k =>
      have hx : (List.replicate a.toNat ((0, b.toNat, []) : Ce))[k]? = some x := hx
      rw [List.getElem?_replicate] at hx
      by_cases hk : k < a.toNat
      · rw [if_pos hk] at hx
        cases hx
        rw [mk2_i (Nat.le_of_ble_eq_true rfl)]
        show (Jvm.Free.Multi.fill (T.setVm vm₁) cA comp a.toNat b.toNat (defaultValue .int) a.toNat).heap[eZ E + (M.length + (k + 1))]? = some (vp_cell (eC E 0) _)
        rw [show eZ E + (M.length + (k + 1)) = H.size + 1 + k by rw [I.2.1]; omega, hrow k hk, vp_cell_i, e0]
        show some ({ cls := comp, slots := Array.replicate b.toNat (.int 0), vm := .none } : Cell) = _
        rw [arrV_new]
        rfl
      · rw [if_neg hk] at hx
        cases hx
  obtain ⟨t, a1, b1⟩ := kk _ hI _ rfl (by rw [← Nat.add_assoc, ← Nat.add_assoc]; exact X')
  refine ⟨t, step t ?_, b1⟩
  have e : T.heap.size = eZ E + M.length := by rw [hT, I.2.1]
  rw [e]
  exact a1
end MX
