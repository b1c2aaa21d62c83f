section MY
variable {p : Program} {l : Launch} {e : Env} {R : Room} {s : State} {m : MethodId} {args : Array Value} {below : List Frame} {meth : Method} {c : Code} {H : Heap} {locs : List Loc} {cells slots : Nat} {Q : State → Prop} {E : En} {d o pc pc' : Nat} {la : Array Slot} {rest : List Value} {ls ls' : Lo} {st st' : List Va} {M M' : Me}
theorem fty_all : ∀ ci, ci < 8 → ∀ k, k < cn ci → ((ct ci k = .int ∨ ct ci k = .boolean) ∧ defaultValue (ct ci k) = .int 0) ∨ (¬ (ct ci k = .int ∨ ct ci k = .boolean) ∧ defaultValue (ct ci k) = .null) := by decide
theorem x_new {cc : ByteArray} {own : String} {w idx : Nat} (hx : p.tables.exec = Jvm.exec) (hb : c.code = cc) (hown : s.vm.findClass own = some m.cls) (hts : ∀ w ∈ WA, w.before args s = true) (hK : K2 E s) (I : I2 E M s H locs) (hw : w < 8) (hl : Cond.classLink own idx (cN w) ∈ WA) (r1 : cells + 1 ≤ R.cells) (r2 : slots + cn w ≤ R.slots) (hd : decode cc pc = .ok (.new idx, 3))
    (kk : ∀ H', I2 E (M ++ [(5, w, [])]) s H' locs → W p l e R s m args below meth c H' locs (cells + 1) (slots + cn w) Q (F0 m (pc + 3) la (.ref (eZ E + M.length) :: rest))) : W p l e R s m args below meth c H locs cells slots Q (F0 m pc la rest) := by
  obtain ⟨-, k2, -, k4⟩ := kw hw
  have hKn := hK.1.1 w _ (vwC_get hw)
  refine W.newcK hx hb hown (hts _ hl) (hts _ k4) (hts _ k2) rfl hd r1 r2 hKn.2.1 I.2.1 fun H1 kC hkC e1 z1 o1 => ?_
  refine kk H1 (I.app hK.2.2.2.2 (by rw [z1, I.2.1]; rfl) (fun q hq => o1 q (by rw [← I.2.1]; exact hq)) (fun k x hx => ?_))
  have h0 : k < 1 := (List.getElem?_eq_some_iff.mp hx).1
  rw [show k = 0 by omega] at hx ⊢
  cases hx
  rw [Nat.add_zero, mk2_5 rfl]
  refine ⟨_, vwC_get hw, (u_born (ct w) hts (cls_ok hw) hKn hkC e1 (fun k hk => cty_ok hw hk)).to (fun j hj => ?_)⟩
  have hj : j < cn w := hj
  show defaultValue (ct w j) = vp_V ((List.range (cn w)).map fun k => en2 E (rd (5, w, []) k)) j
  have hv : vp_V ((List.range (cn w)).map fun k => en2 E (rd (5, w, []) k)) j = en2 E (dfl (5, w, []) j) := by
    simp [vp_V, hj, rd]
  rw [hv]
  unfold dfl
  rw [if_pos rfl]
  rcases fty_all w hw j hj with ⟨a1, a2⟩ | ⟨a1, a2⟩
  · rw [if_pos a1, a2]
    rfl
  · rw [if_neg a1, a2]
    rfl
theorem fs_set {c : Ce} {k : Nat} {v : V2} (hk : k < cn c.2.1) : ((List.range (cn c.2.1)).map fun k => en2 E (rd c k)).set k (en2 E v) = (List.range (cn (wr c k v).2.1)).map fun j => en2 E (rd (wr c k v) j) := by
  refine List.ext_getElem? fun a => ?_
  show _ = ((List.range (cn c.2.1)).map fun j => en2 E (rd (wr c k v) j))[a]?
  rw [List.getElem?_set]
  by_cases ha : k = a
  · subst ha
    rw [if_pos rfl, if_pos (by simpa using hk), List.getElem?_map, List.getElem?_range hk]
    show _ = some (en2 E (rd (wr c k v) k))
    rw [rd_wr, if_pos rfl]
  · rw [if_neg ha, List.getElem?_map, List.getElem?_map]
    by_cases hlt : a < cn c.2.1
    · rw [List.getElem?_range hlt]
      show some (en2 E (rd c a)) = some (en2 E (rd (wr c k v) a))
      rw [rd_wr, if_neg (fun q => ha q.symm)]
    · rw [List.getElem?_eq_none (by simpa using hlt)]
      rfl
theorem kfl_ok {o i k : Nat} (h : kfl o i = some k) : k < cn o ∧ (cF o k).1 = cN o ∧ Cond.fieldLink (cN o) i (cN o) (cF o k).2.1 (cF o k).2.2.1 ∈ WA := kfl_all _ (kfl_mem h)
theorem x_put (C : C2 p R s m args meth c E d o) (I : I2 E M s H locs) (hz : s.heap.size + cells = eZ E + M.length) {k j f : Nat} {v : V2} {x : Ce} (hf : kfl o k = some f) (hM : M[j]? = some x) (h5 : x.1 = 5) (hc : x.2.1 = o) (hv : narrow (ct o f) (en2 E v) = en2 E v ∧ fits (ct o f) (en2 E v) = true) (hd : decode (kB o) pc = .ok (.putfield k, 3))
    (kk : ∀ H' locs', I2 E (M.set j (wr x f v)) s H' locs' → W p l e R s m args below meth c H' locs' cells slots Q (F0 m (pc + 3) la rest)) : W p l e R s m args below meth c H locs cells slots Q (F0 m pc la (en2 E v :: .ref (eZ E + j) :: rest)) := by
  obtain ⟨hx, hb, hml, hr, hlk, hown, hts, hK, hR1, hR2, hnm, ho⟩ := C
  obtain ⟨f1, f2, f3⟩ := kfl_ok hf
  have hlt : j < M.length := (List.getElem?_eq_some_iff.mp hM).1
  have hg := w2_get (E := E) hM
  rw [mk2_5 h5, hc] at hg
  have hset := fs_set (E := E) (c := x) (k := f) (v := v) (by rw [hc]; exact f1)
  have fin : ∀ (H1 : Heap) (locs1 : List Loc), va_P E.1 vwC ((w2 E M).set j (eZ E + j, .inr (o, ((List.range (cn o)).map fun k => en2 E (rd x k)).set f (en2 E v)))) H1 → va_D (Ag E) ((w2 E M).set j (eZ E + j, .inr (o, ((List.range (cn o)).map fun k => en2 E (rd x k)).set f (en2 E v)))) → va_S (Ag E) H H1 locs1 → W p l e R s m args below meth c H1 locs1 cells slots Q (F0 m (pc + 3) la rest) := by
    intro H1 locs1 a1 a2 a3
    refine W_sz fun h9 => kk H1 locs1 (I.put hz hlt (x := wr x f v) ?_ a3 h9)
    rw [mk2_5 (show (wr x f v).1 = 5 from h5), ← hset, show (wr x f v).2.1 = o from hc, hc]
    exact a1
  have hlen : f < ((List.range (cn o)).map fun k => en2 E (rd x k)).length := by simpa using f1
  cases h6 : (cF o f).2.2.2 with
  | false => exact va_put (D := E.1) hx hb hts (cls_ok ho) (ct o) (fun a ha => cty_ok ho ha) (cnm_ok ho) hown hK.1 I.1 w2_D I.S j hg (vwC_get ho) f f1 (hts _ f3) (fun x h => by rw [f2] at h; exact h) h6 (cty_ok ho f1) hv.1 hv.2 hlen hd fin
  | true => exact va_putF (D := E.1) hx hb hts (cls_ok ho) (ct o) (fun a ha => cty_ok ho ha) (cnm_ok ho) hown hK.1 I.1 w2_D I.S j hg (vwC_get ho) f f1 (hts _ f3) (fun x h => by rw [f2] at h; exact h) h6 hnm f2 (cty_ok ho f1) hv.1 hv.2 hlen hd fin
theorem x_get (C : C2 p R s m args meth c E d o) (I : I2 E M s H locs) {k j f v : Nat} {x : Ce} (hf : kfl o k = some f) (hM : M[j]? = some x) (h5 : x.1 = 5) (hc : x.2.1 = o) (hv : rd x f = some (.inr v)) (hd : decode (kB o) pc = .ok (.getfield k, 3))
    (kk : W p l e R s m args below meth c H locs cells slots Q (F0 m (pc + 3) la (.ref (eZ E + v) :: rest))) : W p l e R s m args below meth c H locs cells slots Q (F0 m pc la (.ref (eZ E + j) :: rest)) := by
  obtain ⟨hx, hb, hml, hr, hlk, hown, hts, hK, hR1, hR2, hnm, ho⟩ := C
  obtain ⟨f1, f2, f3⟩ := kfl_ok hf
  have hg := w2_get (E := E) hM
  rw [mk2_5 h5, hc] at hg
  have hv2 : ((List.range (cn o)).map fun k => en2 E (rd x k))[f]? = some (.ref (eZ E + v)) := by
    rw [List.getElem?_map, List.getElem?_range f1]
    show some (en2 E (rd x f)) = _
    rw [hv]
    rfl
  exact va_get (D := E.1) hx hb hts (cls_ok ho) hown hK.1 I.1 j hg (vwC_get ho) f f1 (hts _ f3) (fun x h => by rw [f2] at h; exact h) hv2 hd kk
theorem x_iast (C : C2 p R s m args meth c E d o) (I : I2 E M s H locs) (hz : s.heap.size + cells = eZ E + M.length) {j : Nat} {x : Ce} {z v : Int} (hM : M[j]? = some x) (h5 : x.1 = 0) (z0 : 0 ≤ z) (z1 : z < x.2.1) (z2 : x.2.1 ≤ 4000) (hd : decode (kB o) pc = .ok (.iastore, 1))
    (kk : ∀ H' locs', I2 E (M.set j (wr x z.toNat (some (.inl v)))) s H' locs' → W p l e R s m args below meth c H' locs' cells slots Q (F0 m (pc + 1) la rest)) : W p l e R s m args below meth c H locs cells slots Q (F0 m pc la (.int (i3 v) :: .int (i3 z) :: .ref (eZ E + j) :: rest)) := by
  obtain ⟨hx, hb, hml, hr, hlk, hown, hts, hK, hR1, hR2, hnm, ho⟩ := C
  have hlt : j < M.length := (List.getElem?_eq_some_iff.mp hM).1
  obtain ⟨a1, a2⟩ := i3_in z0 z1 (by omega)
  have hg := w2_get (E := E) hM
  rw [mk2_i (by omega), h5] at hg
  refine va_iast (D := E.1) hx hb hK.1 I.1 w2_D I.S j 0 hg rfl a1 hd fun H1 locs1 p1 p2 p3 => ?_
  refine W_sz fun h9 => kk H1 locs1 (I.put hz hlt (x := wr x z.toNat (some (.inl v))) ?_ p3 h9)
  rw [mk2_i (show (wr x z.toNat (some (.inl v))).1 ≤ 1 by show x.1 ≤ 1; omega), show (wr x z.toNat (some (.inl v))).1 = 0 from h5]
  rw [a2] at p1
  have : (fun k => i3 (iv2 (rd (wr x z.toNat (some (.inl v))) k))) = upd (fun k => i3 (iv2 (rd x k))) z.toNat (i3 v) := by
    funext k
    simp only [upd, rd_wr]
    by_cases hk : k = z.toNat
    · rw [if_pos hk, if_pos hk]
      rfl
    · rw [if_neg hk, if_neg hk]
  rw [this]
  exact p1
theorem x_aast (C : C2 p R s m args meth c E d o) (I : I2 E M s H locs) (hz : s.heap.size + cells = eZ E + M.length) {j v : Nat} {x w : Ce} {z : Int} (hM : M[j]? = some x) (hV : M[v]? = some w) (h5 : x.1 = 2) (h6 : w.1 = 5) (h7 : w.2.1 = 3) (z0 : 0 ≤ z) (z1 : z < x.2.1) (z2 : x.2.1 ≤ 4000) (hd : decode (kB o) pc = .ok (.aastore, 1))
    (kk : ∀ H' locs', I2 E (M.set j (wr x z.toNat (some (.inr v)))) s H' locs' → W p l e R s m args below meth c H' locs' cells slots Q (F0 m (pc + 1) la rest)) : W p l e R s m args below meth c H locs cells slots Q (F0 m pc la (.ref (eZ E + v) :: .int (i3 z) :: .ref (eZ E + j) :: rest)) := by
  obtain ⟨hx, hb, hml, hr, hlk, hown, hts, hK, hR1, hR2, hnm, ho⟩ := C
  have hlt : j < M.length := (List.getElem?_eq_some_iff.mp hM).1
  obtain ⟨a1, a2⟩ := i3_in z0 z1 (by omega)
  have hg := w2_get (E := E) hM
  rw [mk2_r (Or.inl h5), h5] at hg
  have hv := w2_get (E := E) hV
  rw [mk2_5 h6, h7] at hv
  refine va_astq (D := E.1) (r := (cN 3, cF 3, cn 3)) hx hb hK.1 I.1 w2_D I.S j 2 v 3 hg rfl hv (vwC_get (by decide)) a1 hd fun H1 locs1 p1 p2 p3 => ?_
  refine W_sz fun h9 => kk H1 locs1 (I.put hz hlt (x := wr x z.toNat (some (.inr v))) ?_ p3 h9)
  rw [mk2_r (show (wr x z.toNat (some (.inr v))).1 = 2 ∨ _ from Or.inl h5), show (wr x z.toNat (some (.inr v))).1 = 2 from h5]
  rw [a2] at p1
  have : (fun k => rv2 E (rd (wr x z.toNat (some (.inr v))) k)) = va_up (fun k => rv2 E (rd x k)) z.toNat (some (eZ E + v)) := by
    funext k
    simp only [va_up, rd_wr]
    by_cases hk : k = z.toNat
    · rw [if_pos hk, if_pos hk]
      rfl
    · rw [if_neg hk, if_neg hk]
  rw [this]
  exact p1
end MY
