/-! SOUND: a run of the little machine is a run of the machine -/
theorem Kn.moved {E : En} {s U : State} {locs : List Loc} (h : Kn E s) (hS : va_S (Ag E) s.heap U.heap locs) (hW : s.WarmedH U.vm) : Kn E U := by
  obtain ⟨h1, h2, h3, h4⟩ := h
  refine ⟨va_K.moved hW.alike h1, fun j hj => ⟨va_Z.moved hW.alike ((h2 j hj).1.kept fun a ha hn => hS.2.1 a ha hn), va_T.moved hW.alike ((h2 j hj).2.kept fun a ha hn => hS.2.1 a ha hn)⟩, fun w hw => ?_, Nat.le_trans h4 hS.1⟩
  rcases NW_ok w hw with ⟨a, i, b, n, d, x, rfl⟩ | ⟨a, i, x, g, rfl⟩
  · exact va_Nw.warmF hW (h3 _ hw)
  · exact va_Nw.warmM hW (h3 _ hw)
theorem Scr.moved {E : En} {σ σ' : Sg} {s U : State} {locs : List Loc} (h : Scr E σ s) (hz : eZ E ≤ s.heap.size) (hS : va_S (Ag E) s.heap U.heap locs) (hW : s.vm.Alike U.vm) (he : σ' 12 = σ 12) : Scr E σ' U := by
  obtain ⟨L, xs, ⟨scr, y1, y2, y3⟩, x2, x3, x4, x5⟩ := h
  refine ⟨L, xs, ⟨scr, ?_, State.isArrayOf_alike hW y2, y3⟩, x2, by rw [he]; exact x3, x4, fun j hj => by rw [he]; exact x5 j hj⟩
  rw [hS.2.1 _ (Nat.lt_of_lt_of_le x2 hz) (fun (h : eZ E ≤ _) => by omega)]
  exact y1
/-- the end of a method -/
def Qx (E : En) (r : Option Va) (σ' : Sg) : Array Value → State → Outcome → State → Prop := fun _ st o t => (o = .returned (r.map (enc E)) ∧ St E σ' t) ∧ va_F (Ag E) st t
def Px (E : En) (as : List Va) (σ : Sg) : Array Value → State → Prop := va_Pc (as.map (enc E)) (fun U => St E σ U ∧ Kn E U ∧ Scr E σ U)
theorem Px.blind {E : En} {as : List Va} {σ : Sg} : FrameBlind (Px E as σ) := by
  intro a U g mk h
  obtain ⟨h0, h1, ⟨k1, k2, k3, k4⟩, ⟨L, xs, ⟨scr, y1, y2, y3⟩, x2⟩⟩ := h
  refine ⟨h0, h1, ⟨va_K.moved (u := U) (U := U.calling g mk a) (Vm.Alike.refl U.vm) k1, fun j hj => ⟨va_Z.moved (u := U) (U := U.calling g mk a) (Vm.Alike.refl U.vm) (k2 j hj).1, va_T.moved (u := U) (U := U.calling g mk a) (Vm.Alike.refl U.vm) (k2 j hj).2⟩, fun w hw => ?_, k4⟩, ⟨L, xs, ⟨scr, y1, State.isArrayOf_alike (Vm.Alike.refl U.vm) y2, y3⟩, x2⟩⟩
  rcases NW_ok w hw with ⟨a, i, b, n, d, x, rfl⟩ | ⟨a, i, x, g, rfl⟩
  · exact va_Nw.same rfl rfl (k3 _ hw)
  · exact va_Nw.same rfl rfl (k3 _ hw)
section SN
variable {p : Program} {l : Launch} {e : Env} {R : Room} {s : State} {m : MethodId} {args : Array Value} {below : List Frame} {meth : Method} {c : Code} {H : Heap} {locs : List Loc} {cells slots : Nat} {Q : State → Prop} {E : En} {d y pc pc' : Nat} {σ σ' : Sg} {la : Array Slot} {rest : List Value} {ls ls' : Lo} {st st' : List Va}
theorem q_callx {a : Array Value} {r : Option Va} {st0 : List Value} (hr : va_Run p l e R s m args below meth c H locs cells slots 0 0 (F0 m pc la st0) rest (Qx E r σ' a) (Ag E)) (I : In E σ s H locs) (h12 : σ' 12 = σ 12)
    (kk : ∀ (H' : Heap) (locs' : List Loc), In E σ' s H' locs' → W p l e R s m args below meth c H' locs' cells slots Q (F0 m (pc + 3) la ((r.map (enc E)).toList ++ rest))) : W p l e R s m args below meth c H locs cells slots Q (F0 m pc la st0) := by
  intro T hT X
  obtain ⟨v, st₀, t, T', L, h0, X', hL, e1, e2, ⟨⟨hv, hP, hD⟩, hz, hk⟩, st⟩ := hr T hT X
  cases hv
  rw [h0] at hz hk
  obtain ⟨p1, p2, p3, p4⟩ := I
  have hI : In E σ' s T'.heap (locs ++ L) := by
    refine ⟨by rw [e1]; exact hP, hD, ⟨Nat.le_trans p3.1 (by rw [e1]; exact hz), fun q h1 h2 => by rw [e1, hk q (Nat.lt_of_lt_of_le h1 p3.1) h2]; exact p3.2.1 q h1 h2, fun q hq => ?_⟩, ?_⟩
    · rcases List.mem_append.mp hq with h | h
      · exact p3.2.2 q h
      · exact hL q h
    · obtain ⟨L, xs, x1, x2, x3, x4, x5⟩ := p4
      exact ⟨L, xs, x1, x2, by rw [h12]; exact x3, x4, fun j hj => by rw [h12]; exact x5 j hj⟩
  obtain ⟨t2, a1, b1⟩ := kk T'.heap (locs ++ L) hI T' rfl X'
  exact ⟨t2, st t2 a1, b1⟩
end SN
