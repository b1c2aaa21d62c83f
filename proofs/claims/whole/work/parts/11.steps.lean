/-! THE STEPS over the machine: what reads and writes the memory -/
section SQ
variable {p : Program} {l : Launch} {e : Env} {R : Room} {s : State} {m : MethodId} {args : Array Value} {below : List Frame} {meth : Method} {c : Code} {H : Heap} {locs : List Loc} {cells slots : Nat} {Q : State → Prop} {E : En} {d y pc : Nat} {σ : Sg} {la : Array Slot} {rest : List Value}
theorem q_fv {q : Nat × Nat} {k n : Nat} (h : k < n) : ((List.range n).map fun k => fvl E q.1 q.2 k (σ q.1 q.2))[k]? = some (enc E (fvv σ q.1 q.2 k)) := by
  rw [List.getElem?_map, List.getElem?_range h]
  show some (fvl E q.1 q.2 k (σ q.1 q.2)) = some (enc E (fvv σ q.1 q.2 k))
  unfold fvl fvv
  cases rf q.1 q.2 k <;> rfl
theorem q_getf (C : Cx p R s m args meth c cells slots E d y) (I : In E σ s H locs) {k : Nat} {q w : Nat × Nat} (hf : fl (mO y) k = some w) (h1 : rt q.1 q.2 = 5) (h2 : inR q.1 q.2 = true) (h3 : rc q.1 q.2 = w.1) (hd : decode (mB y) pc = .ok (.getfield k, 3))
    (kk : W p l e R s m args below meth c H locs cells slots Q (F0 m (pc + 3) la (enc E (fvv σ q.1 q.2 w.2) :: rest))) : W p l e R s m args below meth c H locs cells slots Q (F0 m pc la (.ref (eA E q.1 q.2) :: rest)) := by
  obtain ⟨hx, hb, hml, hr, hlk, hown, hts, hK, -⟩ := C
  obtain ⟨i, hi⟩ := rl_ix h2
  obtain ⟨ci, k'⟩ := w
  obtain ⟨f1, f2, f4, f3⟩ := fl_ok hf
  obtain ⟨r1, r2⟩ := rol_ok h1 h2
  have hc := wl_get (E := E) (σ := σ) hi
  rw [mk_o h1] at hc
  dsimp only at h3 f1 f2 f3 f4 kk
  subst h3
  have hv := q_fv (E := E) (σ := σ) (q := q) (k := k') (n := rn q.1 q.2) (by omega)
  rcases f3 with f3 | f3
  · exact va_get (D := E.1) hx hb hts (cls_ok f1) hown hK.1 I.1 i hc (vwC_get f1) k' f2 (hts _ f3) (fun x h => by rw [f4] at h; exact h) hv hd kk
  · exact va_getN (D := E.1) hx hb hts (cls_ok f1) hown hK.1 I.1 i hc (vwC_get f1) k' f2 (va_Nw.use rfl (hK.2.2.1 _ f3)) (fun x h => by rw [f4] at h; exact h) hv hd kk
theorem scr_up {g j k : Nat} {z : Int} (h : Scr E σ s) (hg : g ≠ 12) : Scr E (up σ g j k z) s := by
  obtain ⟨L, xs, x1, x2, x3, x4, x5⟩ := h
  refine ⟨L, xs, x1, x2, ?_, x4, fun i hi => ?_⟩
  · rw [up_o (fun e => hg e.1.symm)]
    exact x3
  · rw [up_o (fun e => hg e.1.symm)]
    exact x5 i hi
theorem q_putf (C : Cx p R s m args meth c cells slots E d y) (I : In E σ s H locs) {k : Nat} {q w : Nat × Nat} {z : Int} (hf : fl (mO y) k = some w) (h1 : rt q.1 q.2 = 5) (h2 : inR q.1 q.2 = true) (h3 : rc q.1 q.2 = w.1) (h4 : rf q.1 q.2 w.2 = none) (h5 : ct w.1 w.2 = .int ∨ (ct w.1 w.2 = .boolean ∧ (z = 0 ∨ z = 1))) (h6 : (cF w.1 w.2).2.2.2 = false) (hd : decode (mB y) pc = .ok (.putfield k, 3))
    (kk : ∀ (H' : Heap) (locs' : List Loc), In E (up σ q.1 q.2 w.2 z) s H' locs' → W p l e R s m args below meth c H' locs' cells slots Q (F0 m (pc + 3) la rest)) : W p l e R s m args below meth c H locs cells slots Q (F0 m pc la (.int (i3 z) :: .ref (eA E q.1 q.2) :: rest)) := by
  obtain ⟨hx, hb, hml, hr, hlk, hown, hts, hK, -⟩ := C
  obtain ⟨i, hi⟩ := rl_ix h2
  obtain ⟨ci, k'⟩ := w
  obtain ⟨f1, f2, f4, f3⟩ := fl_ok hf
  obtain ⟨r1, r2⟩ := rol_ok h1 h2
  have hc := wl_get (E := E) (σ := σ) hi
  rw [mk_o h1] at hc
  dsimp only at h3 h4 h5 h6 f1 f2 f3 f4 kk
  subst h3
  have hty := cty_ok f1 f2
  have hn : narrow (ct (rc q.1 q.2) k') (.int (i3 z)) = .int (i3 z) ∧ fits (ct (rc q.1 q.2) k') (.int (i3 z)) = true := by
    rcases h5 with h5 | ⟨h5, h6⟩
    · rw [h5]; exact ⟨rfl, rfl⟩
    · rw [h5]
      rcases h6 with rfl | rfl
      · exact ⟨rfl, rfl⟩
      · exact ⟨rfl, rfl⟩
  have hset : ((List.range (rn q.1 q.2)).map fun k => fvl E q.1 q.2 k (σ q.1 q.2)).set k' (.int (i3 z)) = (List.range (rn q.1 q.2)).map fun k => fvl E q.1 q.2 k (up σ q.1 q.2 k' z q.1 q.2) := by
    refine List.ext_getElem? fun a => ?_
    rw [List.getElem?_set]
    by_cases ha : k' = a
    · subst ha
      rw [if_pos rfl, if_pos (by simp; omega), List.getElem?_map, List.getElem?_range (by omega)]
      show some _ = some (fvl E q.1 q.2 k' _)
      rw [fvl, h4, up_s]
      simp
    · rw [if_neg ha, List.getElem?_map, List.getElem?_map]
      by_cases hlt : a < rn q.1 q.2
      · rw [List.getElem?_range hlt]
        show some (fvl E q.1 q.2 a (σ q.1 q.2)) = some (fvl E q.1 q.2 a (up σ q.1 q.2 k' z q.1 q.2))
        unfold fvl
        rw [up_s]
        simp [Ne.symm ha]
      · rw [List.getElem?_eq_none (by simp; omega)]
        rfl
  have hg := rl_12 h2
  have fin : ∀ (H1 : Heap) (locs1 : List Loc), va_P E.1 vwC ((wl E σ).set i (eA E q.1 q.2, .inr (rc q.1 q.2, ((List.range (rn q.1 q.2)).map fun k => fvl E q.1 q.2 k (σ q.1 q.2)).set k' (.int (i3 z))))) H1 → va_D (Ag E) ((wl E σ).set i (eA E q.1 q.2, .inr (rc q.1 q.2, ((List.range (rn q.1 q.2)).map fun k => fvl E q.1 q.2 k (σ q.1 q.2)).set k' (.int (i3 z))))) → va_S (Ag E) s.heap H1 locs1 → W p l e R s m args below meth c H1 locs1 cells slots Q (F0 m (pc + 3) la rest) := by
    intro H1 locs1 a1 a2 a3
    have e := wl_up (σ' := up σ q.1 q.2 k' z) (e := .inr (rc q.1 q.2, ((List.range (rn q.1 q.2)).map fun k => fvl E q.1 q.2 k (σ q.1 q.2)).set k' (.int (i3 z)))) I.2.1 hi (by rw [mk_o h1, hset]) (fun g' j' h => up_o h)
    rw [e] at a1 a2
    exact kk H1 locs1 ⟨a1, a2, a3, scr_up I.2.2.2 hg⟩
  have hlen : k' < ((List.range (rn q.1 q.2)).map fun k => fvl E q.1 q.2 k (σ q.1 q.2)).length := by simp; omega
  rcases f3 with f3 | f3
  · exact va_put (D := E.1) hx hb hts (cls_ok f1) (ct (rc q.1 q.2)) (fun a ha => cty_ok f1 ha) (cnm_ok f1) hown hK.1 I.1 I.2.1 I.2.2.1 i hc (vwC_get f1) k' f2 (hts _ f3) (fun x h => by rw [f4] at h; exact h) h6 hty hn.1 hn.2 hlen hd fin
  · exact va_putN (D := E.1) hx hb hts (cls_ok f1) (ct (rc q.1 q.2)) (fun a ha => cty_ok f1 ha) (cnm_ok f1) hown hK.1 I.1 I.2.1 I.2.2.1 i hc (vwC_get f1) k' f2 (va_Nw.use rfl (hK.2.2.1 _ f3)) (fun x h => by rw [f4] at h; exact h) h6 hty hn.1 hn.2 hlen hd fin
theorem q_iald (C : Cx p R s m args meth c cells slots E d y) (I : In E σ s H locs) {q : Nat × Nat} {z x : Int} (h : ial σ q.1 q.2 z = some x) (hd : decode (mB y) pc = .ok (.iaload, 1))
    (kk : W p l e R s m args below meth c H locs cells slots Q (F0 m (pc + 1) la (.int (i3 x) :: rest))) : W p l e R s m args below meth c H locs cells slots Q (F0 m pc la (.int (i3 z) :: .ref (eA E q.1 q.2) :: rest)) := by
  obtain ⟨hx, hb, hml, hr, hlk, hown, hts, hK, -⟩ := C
  unfold ial at h
  by_cases h13 : q.1 = 13
  · rw [if_pos h13] at h
    by_cases hz : 0 ≤ z ∧ z < sL q.2 ∧ q.2 < nS
    · rw [if_pos hz] at h
      cases h
      obtain ⟨z0, z1, z2⟩ := hz
      obtain ⟨a1, a2⟩ := i3_in z0 z1 (sL_lt q.2)
      rw [h13]
      exact va_ti hx hb (hK.2.1 q.2 z2).2 I.2.2.1 a1 (by rw [a2]) hd kk
    · rw [if_neg hz] at h
      cases h
  · rw [if_neg h13] at h
    by_cases h12 : q.1 = 12
    · rw [if_pos h12] at h
      by_cases hz : 0 ≤ z ∧ z < σ 12 1 0 ∧ q.2 = 0
      · rw [if_pos hz] at h
        cases h
        obtain ⟨z0, z1, z2⟩ := hz
        obtain ⟨L, xs, x1, x2, x3, x4, x5⟩ := I.2.2.2
        rw [x3] at z1
        obtain ⟨a1, a2⟩ := i3_in z0 z1 x4
        rw [h12, z2]
        refine va_sld hx hb x1 (Nat.lt_of_lt_of_le x2 hK.2.2.2) (fun (h : eZ E ≤ _) => by omega) I.2.2.1 a1 hd ?_
        rw [a2, x5 _ (by omega)]
        exact kk
      · rw [if_neg hz] at h
        cases h
    · rw [if_neg h12] at h
      by_cases hz : rt q.1 q.2 = 0 ∧ inR q.1 q.2 = true ∧ 0 ≤ z ∧ z < rn q.1 q.2
      · rw [if_pos hz] at h
        cases h
        obtain ⟨r0, r1, z0, z1⟩ := hz
        obtain ⟨a1, a2⟩ := i3_in z0 z1 (rn_lt q.1 q.2)
        obtain ⟨i, hi⟩ := rl_ix r1
        have hc := wl_get (E := E) (σ := σ) hi
        rw [mk_i r0] at hc
        refine va_iald (D := E.1) hx hb hK.1 I.1 i 0 hc rfl a1 hd ?_
        rw [a2]
        exact kk
      · rw [if_neg hz] at h
        cases h
theorem q_iast (C : Cx p R s m args meth c cells slots E d y) (I : In E σ s H locs) {q : Nat × Nat} {z x : Int} (r0 : rt q.1 q.2 = 0) (r1 : inR q.1 q.2 = true) (z0 : 0 ≤ z) (z1 : z < rn q.1 q.2) (hd : decode (mB y) pc = .ok (.iastore, 1))
    (kk : ∀ (H' : Heap) (locs' : List Loc), In E (up σ q.1 q.2 z.toNat x) s H' locs' → W p l e R s m args below meth c H' locs' cells slots Q (F0 m (pc + 1) la rest)) : W p l e R s m args below meth c H locs cells slots Q (F0 m pc la (.int (i3 x) :: .int (i3 z) :: .ref (eA E q.1 q.2) :: rest)) := by
  obtain ⟨hx, hb, hml, hr, hlk, hown, hts, hK, -⟩ := C
  obtain ⟨a1, a2⟩ := i3_in z0 z1 (rn_lt q.1 q.2)
  obtain ⟨i, hi⟩ := rl_ix r1
  have hc := wl_get (E := E) (σ := σ) hi
  rw [mk_i r0] at hc
  refine va_iast (D := E.1) hx hb hK.1 I.1 I.2.1 I.2.2.1 i 0 hc rfl a1 hd fun H1 locs1 p1 p2 p3 => ?_
  have e := wl_up (σ' := up σ q.1 q.2 z.toNat x) (e := .inl (eC E 0, rn q.1 q.2, .inl (upd (fun k => i3 (σ q.1 q.2 k)) (i3 z).toNatClampNeg (i3 x)))) I.2.1 hi (by
    rw [mk_i r0, up_s, a2]
    congr 4
    funext k
    simp only [upd]
    by_cases hk : k = z.toNat
    · simp [hk]
    · simp [hk]) (fun g' j' h => up_o h)
  rw [e] at p1 p2
  exact kk H1 locs1 ⟨p1, p2, p3, scr_up I.2.2.2 (rl_12 r1)⟩
theorem q_last (C : Cx p R s m args meth c cells slots E d y) (I : In E σ s H locs) {q : Nat × Nat} {z x : Int} (r0 : rt q.1 q.2 = 4) (r1 : inR q.1 q.2 = true) (z0 : 0 ≤ z) (z1 : z < rn q.1 q.2) (hd : decode (mB y) pc = .ok (.lastore, 1))
    (kk : ∀ (H' : Heap) (locs' : List Loc), In E (up σ q.1 q.2 z.toNat x) s H' locs' → W p l e R s m args below meth c H' locs' cells slots Q (F0 m (pc + 1) la rest)) : W p l e R s m args below meth c H locs cells slots Q (F0 m pc la (.long (i6 x) :: .int (i3 z) :: .ref (eA E q.1 q.2) :: rest)) := by
  obtain ⟨hx, hb, hml, hr, hlk, hown, hts, hK, -⟩ := C
  obtain ⟨a1, a2⟩ := i3_in z0 z1 (rn_lt q.1 q.2)
  obtain ⟨i, hi⟩ := rl_ix r1
  have hc := wl_get (E := E) (σ := σ) hi
  rw [mk_l r0] at hc
  refine va_last (D := E.1) hx hb hK.1 I.1 I.2.1 I.2.2.1 i 4 hc rfl a1 hd fun H1 locs1 p1 p2 p3 => ?_
  have e := wl_up (σ' := up σ q.1 q.2 z.toNat x) (e := .inl (eC E 4, rn q.1 q.2, .inr (.inl (vp_updL (fun k => i6 (σ q.1 q.2 k)) (i3 z).toNatClampNeg (i6 x))))) I.2.1 hi (by
    rw [mk_l r0, up_s, a2]
    congr 5
    funext k
    simp only [vp_updL]
    by_cases hk : k = z.toNat
    · simp [hk]
    · simp [hk]) (fun g' j' h => up_o h)
  rw [e] at p1 p2
  exact kk H1 locs1 ⟨p1, p2, p3, scr_up I.2.2.2 (rl_12 r1)⟩
theorem q_zald (C : Cx p R s m args meth c cells slots E d y) (I : In E σ s H locs) {q : Nat × Nat} {z : Int} (r0 : rt q.1 q.2 = 1) (r1 : inR q.1 q.2 = true) (z0 : 0 ≤ z) (z1 : z < rn q.1 q.2) (hd : decode (mB y) pc = .ok (.baload, 1))
    (kk : W p l e R s m args below meth c H locs cells slots Q (F0 m (pc + 1) la (.int (i3 (σ q.1 q.2 z.toNat)) :: rest))) : W p l e R s m args below meth c H locs cells slots Q (F0 m pc la (.int (i3 z) :: .ref (eA E q.1 q.2) :: rest)) := by
  obtain ⟨hx, hb, hml, hr, hlk, hown, hts, hK, -⟩ := C
  obtain ⟨a1, a2⟩ := i3_in z0 z1 (rn_lt q.1 q.2)
  obtain ⟨i, hi⟩ := rl_ix r1
  have hc := wl_get (E := E) (σ := σ) hi
  rw [mk_z r0] at hc
  refine va_zald (D := E.1) hx hb hK.1 I.1 i 1 hc rfl a1 hd ?_
  rw [a2]
  exact kk
theorem q_zast (C : Cx p R s m args meth c cells slots E d y) (I : In E σ s H locs) {q : Nat × Nat} {z x : Int} (r0 : rt q.1 q.2 = 1) (r1 : inR q.1 q.2 = true) (z0 : 0 ≤ z) (z1 : z < rn q.1 q.2) (hxx : x = 0 ∨ x = 1) (hd : decode (mB y) pc = .ok (.bastore, 1))
    (kk : ∀ (H' : Heap) (locs' : List Loc), In E (up σ q.1 q.2 z.toNat x) s H' locs' → W p l e R s m args below meth c H' locs' cells slots Q (F0 m (pc + 1) la rest)) : W p l e R s m args below meth c H locs cells slots Q (F0 m pc la (.int (i3 x) :: .int (i3 z) :: .ref (eA E q.1 q.2) :: rest)) := by
  obtain ⟨hx, hb, hml, hr, hlk, hown, hts, hK, -⟩ := C
  obtain ⟨a1, a2⟩ := i3_in z0 z1 (rn_lt q.1 q.2)
  obtain ⟨i, hi⟩ := rl_ix r1
  have hc := wl_get (E := E) (σ := σ) hi
  rw [mk_z r0] at hc
  have hnar : vp_nar .boolean (i3 x) = i3 x := by rcases hxx with rfl | rfl <;> rfl
  refine va_zast (D := E.1) hx hb hK.1 I.1 I.2.1 I.2.2.1 i 1 hc rfl a1 hd fun H1 locs1 p1 p2 p3 => ?_
  have e := wl_up (σ' := up σ q.1 q.2 z.toNat x) (e := .inl (eC E 1, rn q.1 q.2, .inl (upd (fun k => i3 (σ q.1 q.2 k)) (i3 z).toNatClampNeg (vp_nar .boolean (i3 x))))) I.2.1 hi (by
    rw [mk_z r0, up_s, a2, hnar]
    congr 4
    funext k
    simp only [upd]
    by_cases hk : k = z.toNat
    · simp [hk]
    · simp [hk]) (fun g' j' h => up_o h)
  rw [e] at p1 p2
  exact kk H1 locs1 ⟨p1, p2, p3, scr_up I.2.2.2 (rl_12 r1)⟩
theorem q_lald (C : Cx p R s m args meth c cells slots E d y) (I : In E σ s H locs) {q : Nat × Nat} {z : Int} (r0 : rt q.1 q.2 = 4) (r1 : inR q.1 q.2 = true) (z0 : 0 ≤ z) (z1 : z < rn q.1 q.2) (hd : decode (mB y) pc = .ok (.laload, 1))
    (kk : W p l e R s m args below meth c H locs cells slots Q (F0 m (pc + 1) la (.long (i6 (σ q.1 q.2 z.toNat)) :: rest))) : W p l e R s m args below meth c H locs cells slots Q (F0 m pc la (.int (i3 z) :: .ref (eA E q.1 q.2) :: rest)) := by
  obtain ⟨hx, hb, hml, hr, hlk, hown, hts, hK, -⟩ := C
  obtain ⟨a1, a2⟩ := i3_in z0 z1 (rn_lt q.1 q.2)
  obtain ⟨i, hi⟩ := rl_ix r1
  have hc := wl_get (E := E) (σ := σ) hi
  rw [mk_l r0] at hc
  refine va_lald (D := E.1) hx hb hK.1 I.1 i 4 hc rfl a1 hd ?_
  rw [a2]
  exact kk
theorem q_aald (C : Cx p R s m args meth c cells slots E d y) (I : In E σ s H locs) {q w : Nat × Nat} {z : Int} (r0 : rt q.1 q.2 = 2 ∨ rt q.1 q.2 = 3) (r1 : inR q.1 q.2 = true) (z0 : 0 ≤ z) (z1 : z < rn q.1 q.2) (hw : rf q.1 q.2 z.toNat = some w) (hd : decode (mB y) pc = .ok (.aaload, 1))
    (kk : W p l e R s m args below meth c H locs cells slots Q (F0 m (pc + 1) la (.ref (eA E w.1 w.2) :: rest))) : W p l e R s m args below meth c H locs cells slots Q (F0 m pc la (.int (i3 z) :: .ref (eA E q.1 q.2) :: rest)) := by
  obtain ⟨hx, hb, hml, hr, hlk, hown, hts, hK, -⟩ := C
  obtain ⟨a1, a2⟩ := i3_in z0 z1 (rn_lt q.1 q.2)
  obtain ⟨i, hi⟩ := rl_ix r1
  have hc := wl_get (E := E) (σ := σ) hi
  rw [mk_r r0] at hc
  have hlt : (i3 z).toNatClampNeg < rn q.1 q.2 := by rw [a2]; omega
  have hv : va_rf (((rf q.1 q.2 (i3 z).toNatClampNeg).map fun q => eA E q.1 q.2)) = .ref (eA E w.1 w.2) := by rw [a2, hw]; rfl
  rcases r0 with r0 | r0
  · rw [r0] at hc
    exact W.aald (v := .ref (eA E w.1 w.2)) (ty := .object (cN 3)) hx hb (I.1 i _ hc) ((hK.1.2 2 _ rfl).1 (rn q.1 q.2) (fun j => va_rf ((rf q.1 q.2 j).map fun q => eA E q.1 q.2))) rfl (fun q => by cases q) (by show ¬ (i3 z < 0 ∨ (arrV _ _ _).slots.size ≤ _); rw [arrV_size]; exact a1) (by show (arrV _ _ _).slots[_]? = _; rw [arrV_read _ _ hlt, hv]) rfl rfl hd kk
  · rw [r0] at hc
    exact W.aald (v := .ref (eA E w.1 w.2)) (ty := .array .int) hx hb (I.1 i _ hc) ((hK.1.2 3 _ rfl).1 (rn q.1 q.2) (fun j => va_rf ((rf q.1 q.2 j).map fun q => eA E q.1 q.2))) rfl (fun q => by cases q) (by show ¬ (i3 z < 0 ∨ (arrV _ _ _).slots.size ≤ _); rw [arrV_size]; exact a1) (by show (arrV _ _ _).slots[_]? = _; rw [arrV_read _ _ hlt, hv]) rfl rfl hd kk
theorem q_alen (C : Cx p R s m args meth c cells slots E d y) (I : In E σ s H locs) {q : Nat × Nat} {x : Int} (h : aln σ q.1 q.2 = some x) (hd : decode (mB y) pc = .ok (.arraylength, 1))
    (kk : W p l e R s m args below meth c H locs cells slots Q (F0 m (pc + 1) la (.int (i3 x) :: rest))) : W p l e R s m args below meth c H locs cells slots Q (F0 m pc la (.ref (eA E q.1 q.2) :: rest)) := by
  obtain ⟨hx, hb, hml, hr, hlk, hown, hts, hK, -⟩ := C
  unfold aln at h
  by_cases h13 : q.1 = 13
  · rw [if_pos h13] at h
    by_cases hz : q.2 < nS
    · rw [if_pos hz] at h
      cases h
      rw [h13]
      exact va_tlen hx hb (hK.2.1 q.2 hz).2 I.2.2.1 rfl hd kk
    · rw [if_neg hz] at h
      cases h
  · rw [if_neg h13] at h
    by_cases h12 : q.1 = 12
    · rw [if_pos h12] at h
      by_cases hz : q.2 = 0
      · rw [if_pos hz] at h
        cases h
        obtain ⟨L, xs, x1, x2, x3, x4, x5⟩ := I.2.2.2
        rw [h12, hz]
        rw [x3] at kk
        exact va_slen hx hb x1 (Nat.lt_of_lt_of_le x2 hK.2.2.2) (fun (h : eZ E ≤ _) => by omega) I.2.2.1 hd kk
      · rw [if_neg hz] at h
        cases h
    · rw [if_neg h12] at h
      by_cases hz : rt q.1 q.2 ≤ 1 ∧ inR q.1 q.2 = true
      · rw [if_pos hz] at h
        cases h
        obtain ⟨r0, r1⟩ := hz
        obtain ⟨i, hi⟩ := rl_ix r1
        have hc := wl_get (E := E) (σ := σ) hi
        by_cases hq : rt q.1 q.2 = 0
        · rw [mk_i hq] at hc
          exact va_alen (D := E.1) hx hb hK.1 I.1 i 0 hc rfl rfl hd kk
        · rw [mk_z (by omega)] at hc
          exact va_alen (D := E.1) hx hb hK.1 I.1 i 1 hc rfl rfl hd kk
      · rw [if_neg hz] at h
        cases h
theorem q_gets (C : Cx p R s m args meth c cells slots E d y) (I : In E σ s H locs) {k j : Nat} (hs : sl (mO y) k = some j) (hd : decode (mB y) pc = .ok (.getstatic k, 3))
    (kk : W p l e R s m args below meth c H locs cells slots Q (F0 m (pc + 3) la (.ref (eA E 13 j) :: rest))) : W p l e R s m args below meth c H locs cells slots Q (F0 m pc la rest) := by
  obtain ⟨hx, hb, hml, hr, hlk, hown, hts, hK, -⟩ := C
  obtain ⟨f1, f3⟩ := sl_ok hs
  rcases f3 with f3 | f3
  · exact va_gets hx hb (hK.2.1 j f1).1 I.2.2.1 hown (hts _ f3) (fun x h => h) hd kk
  · exact va_getsN hx hb (hK.2.1 j f1).1 I.2.2.1 hown (va_Nw.use rfl (hK.2.2.1 _ f3)) (fun x h => h) hd kk
end SQ
