section SM
variable {p : Program} {l : Launch} {e : Env} {R : Room} {s : State} {m : MethodId} {args : Array Value} {below : List Frame} {meth : Method} {c : Code} {H : Heap} {locs : List Loc} {cells slots : Nat} {Q : State → Prop} {E : En} {d y pc : Nat} {la : Array Slot} {ls : Lo} {st2 : List Va} {a b : Int} {k : Nat}
theorem cat_le : ∀ (st : List Va), ((st.map (enc E)).map fun v => v.category).sum ≤ 2 * st.length
  | [] => by simp
  | v :: t => by
    have := cat_le t
    have h2 : (enc E v).category ≤ 2 := by rcases v with z | q | z <;> simp [enc, Value.category]
    simp only [List.map_cons, List.sum_cons, List.length_cons]
    omega
theorem q_max (C : Cx p R s m args meth c cells slots E d y) (L : Lc E (mL y) ls la) (hm : ml (mO y) k = some 1000) (h1 : rng a = true ∧ rng b = true ∧ st2.length ≤ 4) (hd : decode (mB y) pc = .ok (.invokestatic k, 3))
    (kk : W p l e R s m args below meth c H locs cells slots Q (F0 m (pc + 3) la (.int (i3 (max a b)) :: st2.map (enc E)))) : W p l e R s m args below meth c H locs cells slots Q (F0 m pc la (.int (i3 b) :: .int (i3 a) :: st2.map (enc E))) := by
  obtain ⟨hx, hb, hml, hr, hlk, hown, hts, hK, hR1, hR2, hc1, hc2⟩ := C
  obtain ⟨w1, w2, w3, w4⟩ := mx_ok hm
  have hc := cat_le (E := E) st2
  refine va_mmax hx hb (hml.trans L.2.1.symm) hown (hts _ w1) (hts _ w2) (hts _ w3) (hts _ w4) (by omega) (by omega) hc1 hc2 hd ?_
  rw [i3_max (rng_iff.mp h1.1) (rng_iff.mp h1.2.1)]
  exact kk
theorem q_min (C : Cx p R s m args meth c cells slots E d y) (L : Lc E (mL y) ls la) (hm : ml (mO y) k = some 1001) (h1 : rng a = true ∧ rng b = true ∧ st2.length ≤ 4) (hd : decode (mB y) pc = .ok (.invokestatic k, 3))
    (kk : W p l e R s m args below meth c H locs cells slots Q (F0 m (pc + 3) la (.int (i3 (min a b)) :: st2.map (enc E)))) : W p l e R s m args below meth c H locs cells slots Q (F0 m pc la (.int (i3 b) :: .int (i3 a) :: st2.map (enc E))) := by
  obtain ⟨hx, hb, hml, hr, hlk, hown, hts, hK, hR1, hR2, hc1, hc2⟩ := C
  obtain ⟨w1, w2, w3, w4⟩ := mi_ok hm
  have hc := cat_le (E := E) st2
  refine va_mmin hx hb (hml.trans L.2.1.symm) hown (hts _ w1) (hts _ w2) (hts _ w3) (hts _ w4) (by omega) (by omega) hc1 hc2 hd ?_
  rw [i3_min (rng_iff.mp h1.1) (rng_iff.mp h1.2.1)]
  exact kk
theorem q_abs (C : Cx p R s m args meth c cells slots E d y) (L : Lc E (mL y) ls la) (hm : ml (mO y) k = some 1002) (h1 : -2147483647 ≤ a ∧ a ≤ 2147483647 ∧ st2.length ≤ 4) (hd : decode (mB y) pc = .ok (.invokestatic k, 3))
    (kk : W p l e R s m args below meth c H locs cells slots Q (F0 m (pc + 3) la (.int (i3 (a.natAbs : Int)) :: st2.map (enc E)))) : W p l e R s m args below meth c H locs cells slots Q (F0 m pc la (.int (i3 a) :: st2.map (enc E))) := by
  obtain ⟨hx, hb, hml, hr, hlk, hown, hts, hK, hR1, hR2, hc1, hc2⟩ := C
  obtain ⟨w1, w2, w3, w4⟩ := ma_ok hm
  have hc := cat_le (E := E) st2
  refine va_mabs hx hb (hml.trans L.2.1.symm) hown (hts _ w1) (hts _ w2) (hts _ w3) (hts _ w4) (by omega) (by omega) hc1 hc2 hd ?_
  rw [i3_abs ⟨h1.1, h1.2.1⟩]
  exact kk
end SM
