/-! A RUN OF THE SECOND LITTLE MACHINE IS A RUN OF THE MACHINE -/
theorem K2.moved {E : En} {s U : State} {locs : List Loc} (h : K2 E s) (hS : va_S (Ag E) s.heap U.heap locs) (hW : s.WarmedH U.vm) : K2 E U := by
  obtain ⟨h1, h2, h3, h4, h5⟩ := h
  refine ⟨va_K.moved hW.alike h1, fun w hw => ?_, va_AO.moved hW.alike h3, arrayOver_alikeB hW.alike h4, Nat.le_trans h5 hS.1⟩
  obtain ⟨a, i, x, g, rfl⟩ := NI_ok w hw
  exact va_Nw.warmM hW (h2 _ hw)
def wk (o : Nat) : List Cond := Cond.code (kY o) (kB o) (kLo o) none :: WA
def rm2 (d mc ms : Nat) : Room := { frames := d + 1, cells := mc, slots := ms, locals := 40 * (d + 1) }
def Px2 (E : En) (j : Nat) (M : Me) : Array Value → State → Prop := va_Pc ([vr 20 j].map (enc E)) (fun U => va_P E.1 vwC (w2 E M) U.heap ∧ U.heap.size = eZ E + M.length ∧ K2 E U)
def Qx2 (E : En) (M' : Me) : Array Value → State → Outcome → State → Prop := fun _ st o t => (o = .returned none ∧ va_P E.1 vwC (w2 E M') t.heap ∧ t.heap.size = eZ E + M'.length) ∧ va_F (Ag E) st t
theorem Px2.blind {E : En} {j : Nat} {M : Me} : FrameBlind (Px2 E j M) := by
  intro a U g mk h
  obtain ⟨h0, h1, h2, k1, k2, k3, k4, k5⟩ := h
  refine ⟨h0, h1, h2, va_K.moved (u := U) (U := U.calling g mk a) (Vm.Alike.refl U.vm) k1, fun w hw => ?_, va_AO.moved (u := U) (U := U.calling g mk a) (Vm.Alike.refl U.vm) k3, arrayOver_alikeB (s := U) (U := U.calling g mk a) (Vm.Alike.refl U.vm) k4, k5⟩
  obtain ⟨a, i, x, g, rfl⟩ := NI_ok w hw
  exact va_Nw.same rfl rfl (k2 _ hw)
section MS
variable {p : Program} {l : Launch} {e : Env} {R : Room} {s : State} {m : MethodId} {args : Array Value} {below : List Frame} {meth : Method} {c : Code} {H : Heap} {locs : List Loc} {cells slots : Nat} {Q : State → Prop} {E : En} {d o pc pc' len : Nat} {la : Array Slot} {rest : List Value} {ls ls' : Lo} {st st' : List Va} {M M' : Me} {i : Instr}
theorem x_callx {a : Array Value} {mc ms : Nat} {st0 : List Value} (hr : va_Run p l e R s m args below meth c H locs cells slots mc ms (F0 m pc la st0) rest (Qx2 E M' a) (Ag E)) (I : I2 E M s H locs)
    (kk : ∀ (H' : Heap) (locs' : List Loc), I2 E M' s H' locs' → W p l e R s m args below meth c H' locs' (cells + mc) (slots + ms) Q (F0 m (pc + 3) la rest)) : W p l e R s m args below meth c H locs cells slots Q (F0 m pc la st0) := by
  intro T hT X
  obtain ⟨v, st₀, t, T', L, h0, X', hL, e1, e2, ⟨⟨hv, hP, hD⟩, hz, hk⟩, st⟩ := hr T hT X
  cases hv
  rw [h0] at hz hk
  obtain ⟨p1, p2, p3⟩ := I
  have hI : I2 E M' s T'.heap (locs ++ L) := by
    refine ⟨by rw [e1]; exact hP, by rw [e1]; exact hD, ⟨Nat.le_trans p3.1 (by rw [e1]; exact hz), fun q h1 h2 => by rw [e1, hk q (Nat.lt_of_lt_of_le h1 p3.1) h2]; exact p3.2.1 q h1 h2, fun q hq => ?_⟩⟩
    rcases List.mem_append.mp hq with h | h
    · exact p3.2.2 q h
    · exact hL q h
  obtain ⟨t2, a1, b1⟩ := kk T'.heap (locs ++ L) hI T' rfl X'
  exact ⟨t2, st t2 a1, b1⟩
theorem cal2 {w j : Nat} {M1 : Me} (h : s2 o pc i len ls st M = some (.inr (.inr (w, j, pc', ls', st', M1)))) : ∃ k, i = .invokespecial k ∧ len = 3 ∧ st = vr 20 j :: st' ∧ st'.length ≤ 4 ∧ kin o k = some w ∧ pc' = pc + 3 ∧ ls' = ls ∧ M1 = M := by
  unfold s2 at h
  repeat' split at h
  all_goals first | (cases h; done) | skip
  cases h
  rename_i k _ q _ _ _ h20 hk hl
  obtain ⟨g, j⟩ := q
  dsimp only at h20
  subst h20
  exact ⟨k, rfl, hl.1, rfl, hl.2, hk, rfl, rfl, rfl⟩
theorem ret2 (h : s2 o pc i len ls st M = some (.inr (.inl M'))) : i = .return_ ∧ len = 1 ∧ st = [] ∧ M' = M := by
  unfold s2 at h
  repeat' split at h
  all_goals first | (cases h; done) | skip
  cases h
  exact ⟨rfl, ‹_›, rfl, rfl⟩
theorem ex2_s (n d o pc : Nat) (ls : Lo) (st : List Va) (M : Me) : ex2 (n + 1) d o pc ls st M = (match kI2 o pc with
    | none => none
    | some (i, len) => match s2 o pc i len ls st M with
      | none => none
      | some (.inl (pc', ls', st', M')) => ex2 n d o pc' ls' st' M'
      | some (.inr (.inl M')) => some M'
      | some (.inr (.inr (o', j, pc', ls', st', M'))) => match d with
        | 0 => none
        | d' + 1 => match ex2 n d' o' 0 (some (vr 20 j) :: List.replicate (kLo o' - 1) none) [] M' with
          | none => none
          | some M2 => ex2 n (d' + 1) o pc' ls' st' M2) := rfl
theorem ex2_le : ∀ (n : Nat) {d o pc : Nat} {ls : Lo} {st : List Va} {M M' : Me}, ex2 n d o pc ls st M = some M' → M.length ≤ M'.length ∧ ss M ≤ ss M' := by
  intro n
  induction n with
  | zero => intro d o pc ls st M M' h; cases h
  | succ n ih =>
    intro d o pc ls st M M' h
    rw [ex2_s] at h
    cases hi : kI2 o pc with
    | none => rw [hi] at h; cases h
    | some q =>
      obtain ⟨i, len⟩ := q
      rw [hi] at h
      dsimp only at h
      cases hs : s2 o pc i len ls st M with
      | none => rw [hs] at h; cases h
      | some a =>
        rw [hs] at h
        rcases a with ⟨pc', ls', st', M1⟩ | M1 | ⟨w, j, pc', ls', st', M1⟩
        · have h1 := s2_le hs
          have h2 := ih h
          omega
        · cases h
          obtain ⟨-, -, -, rfl⟩ := ret2 hs
          exact ⟨Nat.le_refl _, Nat.le_refl _⟩
        · obtain ⟨k, -, -, -, -, -, -, -, rfl⟩ := cal2 hs
          cases d with
          | zero => cases h
          | succ d =>
            dsimp only at h
            cases hc : ex2 n d w 0 (some (vr 20 j) :: List.replicate (kLo w - 1) none) [] M1 with
            | none => rw [hc] at h; cases h
            | some M2 =>
              rw [hc] at h
              have h1 := ih hc
              have h2 := ih h
              omega
end MS
theorem snd2 (l : Launch) (E : En) (hE : ∀ k, eA E 20 k = eZ E + k) : ∀ (n : Nat) {d o pc : Nat} {ls : Lo} {st : List Va} {M M' : Me}, ex2 n d o pc ls st M = some M' → ∀ {p : Program} {e : Env} {R : Room} {s : State} {m : MethodId} {args : Array Value} {below : List Frame} {meth : Method} {c : Code} {H : Heap} {locs : List Loc} {cells slots : Nat} {Q : State → Prop} {la : Array Slot}, C2 p R s m args meth c E d o → cells + (M'.length - M.length) ≤ R.cells → slots + (ss M' - ss M) ≤ R.slots → s.heap.size + cells = eZ E + M.length → I2 E M s H locs → Lc E (kLo o) ls la → (∀ (pc : Nat) (H' : Heap) (locs' : List Loc) (la' : Array Slot), I2 E M' s H' locs' → decode (kB o) pc = .ok (.return_, 1) → W p l e R s m args below meth c H' locs' (cells + (M'.length - M.length)) (slots + (ss M' - ss M)) Q (F0 m pc la' [])) → W p l e R s m args below meth c H locs cells slots Q (F0 m pc la (st.map (enc E))) := by
  intro n
  induction n with
  | zero => intro d o pc ls st M M' h; cases h
  | succ n ih =>
    intro d o pc ls st M M' h p e R s m args below meth c H locs cells slots Q la C q1 q2 hz I L hQ
    have hle := ex2_le _ h
    rw [ex2_s] at h
    cases hi : kI2 o pc with
    | none => rw [hi] at h; cases h
    | some q =>
    obtain ⟨i, len⟩ := q
    rw [hi] at h
    dsimp only at h
    cases hs : s2 o pc i len ls st M with
    | none => rw [hs] at h; cases h
    | some a =>
    rw [hs] at h
    rcases a with ⟨pc', ls', st', M1⟩ | M1 | ⟨w, j, pc', ls', st', M1⟩
    · have h1 := s2_le hs
      have h2 := ex2_le _ h
      dsimp only at h
      refine x_go hE C I L hz hi hs (by omega) (by omega) (fun H2 locs2 la2 I2' L2 => ih h C (by omega) (by omega) (by omega) I2' L2 (fun pc3 H3 locs3 la3 I3 hd3 => ?_))
      have := hQ pc3 H3 locs3 la3 I3 hd3
      rw [show cells + (M1.length - M.length) + (M'.length - M1.length) = cells + (M'.length - M.length) by omega, show slots + (ss M1 - ss M) + (ss M' - ss M1) = slots + (ss M' - ss M) by omega]
      exact this
    · cases h
      obtain ⟨rfl, rfl, rfl, rfl⟩ := ret2 hs
      have := hQ pc H locs la I (kI2_ok C.2.2.2.2.2.2.2.2.2.2.2 hi)
      rw [Nat.sub_self, Nat.sub_self] at this
      exact this
    · obtain ⟨k, rfl, rfl, rfl, hst, hk, rfl, rfl, rfl⟩ := cal2 hs
      cases d with
      | zero => cases h
      | succ d =>
      dsimp only at h
      cases hc : ex2 n d w 0 (some (vr 20 j) :: List.replicate (kLo w - 1) none) [] M1 with
      | none => rw [hc] at h; cases h
      | some M2 =>
      rw [hc] at h
      have h1 := ex2_le _ hc
      have h2 := ex2_le _ h
      have C0 := C
      obtain ⟨hx, hb, hml, hr, hlk, hown, hts, hK, hR1, hR2, hnm, ho⟩ := C0
      obtain ⟨hw8, hlink⟩ := kin_ok hk
      obtain ⟨g1, g2, g3, g4⟩ := kw hw8
      obtain ⟨g5, g6, g7, g8⟩ := kw2 hw8
      have hM : Met l (kY w) (wk w) (rm2 d (M2.length - M1.length) (ss M2 - ss M1)) (Px2 E j M1) (Qx2 E M2) (M2.length - M1.length) (ss M2 - ss M1) (Ag E) := by
        refine va_MetF (cc := kB w) (maxL := kLo w) (ret := none) g6 rfl ?_
        intro p2 e2 s2 m2' args2 below2 meth2 c2 s₁ B hml2 hv
        obtain ⟨rfl, hP, hZ, hK2⟩ := hv
        have hts2 := atoms_spec (ws := wk w) B.pre
        rw [lg_entry_eq, lg_len [vr 20 j] rfl]
        have hl := lv_entry ([vr 20 j].map (enc E)) (n := kLo w) (by rw [lg_len [vr 20 j] rfl]; exact g7)
        rw [lg_len [vr 20 j] rfl, lv_ini [vr 20 j] (kLo w - [vr 20 j].length) 0 rfl] at hl
        refine ih hc (st := []) (cells := 0) (slots := 0) ⟨B.exec, B.bytes, hml2, B.returns, B.notSynchronized, findClass_of_methodNamed B.named, fun w hw => hts2 w (List.mem_cons_of_mem _ hw), hK2, Nat.le_refl _, Nat.le_refl _, (name_of_methodNamed B.named B.method).1, hw8⟩ (by rw [Nat.zero_add]; exact Nat.le_refl _) (by rw [Nat.zero_add]; exact Nat.le_refl _) (by rw [Nat.add_zero]; exact hZ) ⟨hP, hZ, va_S.rf⟩ ⟨by rw [List.length_cons, List.length_replicate]; omega, hl⟩ (fun pc3 H3 locs3 la3 I3 hd3 => ?_)
        rw [Nat.zero_add, Nat.zero_add]
        obtain ⟨i1, i2, i3'⟩ := I3
        exact W.vret B.exec B.bytes B.returns (fun t ht hW => ⟨⟨rfl, by rw [ht]; exact i1, by rw [ht]; exact i2⟩, i3'.F ht⟩) i3'.2.2 hd3 B.notSynchronized
      have hpre : ∀ U : State, U.heap = H → s.WarmedH U.vm → Px2 E j M1 ([vr 20 j].map (enc E)).toArray U := fun U hU hW => by
        have hS : va_S (Ag E) s.heap U.heap locs := by rw [hU]; exact I.2.2
        exact ⟨rfl, by rw [hU]; exact I.1, by rw [hU]; exact I.2.1, hK.moved hS hW⟩
      have hcat := cat_le (E := E) st'
      have hin : ∀ w' ∈ wk w, w' ∈ WA := fun w' hw' => by
        rcases List.mem_cons.mp hw' with rfl | hw'
        · exact g1
        · exact hw'
      have hW := va_cnB (R := R) (args := args) (s := s) (own := cN o) (index := k) (y := kY w) (host := "FiguredBass") (bytes := kB w) (maxL := kLo w) (ret := none) (ws := wk w) (rm := rm2 d (M2.length - M1.length) (ss M2 - ss M1)) 0 hts (good_in hin) rfl rfl rfl (hK.2.1 _ hlink) (hts _ g2) ⟨g5.1, g5.2, (show (parseMethodDescriptor "()V").map (fun d => d.parameters.length) = some 0 by decide +kernel)⟩ (by simp only [rm2]; omega)
      refine x_callx (M' := M2) (va_runIN (b := eA E 20 j) (As := []) (rest := st'.map (enc E)) ⟨hx, hb, hml, hown, hts⟩ hM ⟨hW, rfl, hts _ g3⟩ ⟨Px2.blind, hpre⟩ rfl rfl L.2.1 rfl (by show 2 * 0 + _ ≤ 8; omega) (kI2_ok ho hi) (by omega)) I (fun H2 locs2 I2' => ih h C (by omega) (by omega) (by omega) I2' L (fun pc3 H3 locs3 la3 I3 hd3 => ?_))
      have := hQ pc3 H3 locs3 la3 I3 hd3
      rw [show cells + (M2.length - M1.length) + (M'.length - M2.length) = cells + (M'.length - M1.length) by omega, show slots + (ss M2 - ss M1) + (ss M' - ss M2) = slots + (ss M' - ss M1) by omega]
      exact this
/-- THE CONTRACT of a constructor, out of a run -/
theorem met2 {l : Launch} {E : En} (hE : ∀ k, eA E 20 k = eZ E + k) {n d w j : Nat} {M1 M2 : Me} (hw8 : w < 8) (hc : ex2 n d w 0 (some (vr 20 j) :: List.replicate (kLo w - 1) none) [] M1 = some M2) : Met l (kY w) (wk w) (rm2 d (M2.length - M1.length) (ss M2 - ss M1)) (Px2 E j M1) (Qx2 E M2) (M2.length - M1.length) (ss M2 - ss M1) (Ag E) := by
  obtain ⟨g1, g2, g3, g4⟩ := kw hw8
  obtain ⟨g5, g6, g7, g8⟩ := kw2 hw8
  refine va_MetF (cc := kB w) (maxL := kLo w) (ret := none) g6 rfl ?_
  intro p2 e2 s2 m2' args2 below2 meth2 c2 s₁ B hml2 hv
  obtain ⟨rfl, hP, hZ, hK2⟩ := hv
  have hts2 := atoms_spec (ws := wk w) B.pre
  rw [lg_entry_eq, lg_len [vr 20 j] rfl]
  have hl := lv_entry ([vr 20 j].map (enc E)) (n := kLo w) (by rw [lg_len [vr 20 j] rfl]; exact g7)
  rw [lg_len [vr 20 j] rfl, lv_ini [vr 20 j] (kLo w - [vr 20 j].length) 0 rfl] at hl
  refine snd2 l E hE n hc (st := []) (cells := 0) (slots := 0) ⟨B.exec, B.bytes, hml2, B.returns, B.notSynchronized, findClass_of_methodNamed B.named, fun w hw => hts2 w (List.mem_cons_of_mem _ hw), hK2, Nat.le_refl _, Nat.le_refl _, (name_of_methodNamed B.named B.method).1, hw8⟩ (by rw [Nat.zero_add]; exact Nat.le_refl _) (by rw [Nat.zero_add]; exact Nat.le_refl _) (by rw [Nat.add_zero]; exact hZ) ⟨hP, hZ, va_S.rf⟩ ⟨by rw [List.length_cons, List.length_replicate]; omega, hl⟩ (fun pc3 H3 locs3 la3 I3 hd3 => ?_)
  rw [Nat.zero_add, Nat.zero_add]
  obtain ⟨i1, i2, i3'⟩ := I3
  exact W.vret B.exec B.bytes B.returns (fun t ht hW => ⟨⟨rfl, by rw [ht]; exact i1, by rw [ht]; exact i2⟩, i3'.F ht⟩) i3'.2.2 hd3 B.notSynchronized
