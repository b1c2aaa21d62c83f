/-! THE LAW FROM ITS ENTRY -/
def R_law : String := "FiguredBassLaw"
def lw_P (b : Addr) (xs : List Int32) (args : Array Value) (s : State) : Prop := args = #[.ref b] ∧ s.IntsAt b xs ∧ xs.length ≤ 2560 ∧ (Jvm.Cond.and given_1 narrow_1).before args s = true
def lw_Q (_ : Array Value) (s : State) (o : Outcome) (t : State) : Prop := o = .returned (some (.int 1)) ∧ Framed s o t [] 601024 7293034
def lw_Z (below : List Frame) (a : Array Value) (s : State) : State → Prop := fun t => ∃ o, t.status = .running ∧ Ended t below o ∧ lw_Q a s o t
theorem lw_ret {p : Program} {l : Launch} {e : Env} {s : State} {m : MethodId} {below : List Frame} {meth : Method} {c : Code} {b : Nat} (hx : p.tables.exec = Jvm.exec) (hb : c.code = code) (hr : meth.sig.returnType = ret) (hlocks : meth.locks = false) {pc : Nat} {H : Heap} {ls : Array Slot} (hdg : decode code pc = .ok (.ireturn, 1)) : W p l e room_1 s m #[Value.ref b] below meth c H [] 601024 7293034 (lw_Z below #[Value.ref b] s) (F0 m pc ls [.int 1]) := by
  intro T hT X
  obtain ⟨fs, hret, hrun, hended, hW, hframe⟩ := X.leave (v := some (.int 1)) (hlocks := hlocks) (fun h => by rw [hr] at h; cases h)
  have hmeth' : T.vm.method? m = some meth := X.method'
  refine ⟨T.setFrames fs, ?_, .returned (some (.int 1)), hrun, hended, rfl, ⟨_, rfl⟩, hW, hframe⟩
  jvm_step X.here [X.here.top, hx, hb, hdg, hmeth', hr, ret, narrow_b1]
  (try refine ⟨rfl, ?_⟩); (try refine ⟨rfl, ?_⟩)
  first | (intro acts; rw [hret _ acts rfl rfl rfl]) | rw [hret _ _ rfl rfl rfl]
  exact Steps.refl _
def lw_At (p : Program) (s : State) (m : MethodId) (meth : Method) (c : Code) (b L : Nat) (xs : Nat → Int32) : Prop :=
  p.tables.exec = Jvm.exec ∧ c.code = code ∧ meth.sig.returnType = ret ∧ c.maxLocals = 7 ∧ s.vm.findClass R_law = some m.cls ∧ (∀ w ∈ lw_tbl, w.before #[Value.ref b] s = true) ∧ va_X b L xs s s.heap ∧ b < s.heap.size ∧ meth.locks = false ∧ (Jvm.Cond.and given_1 narrow_1).before #[Value.ref b] s = true
theorem lw_d0 : decode code 0 = .ok (.new 8, 3) := by decide +kernel
theorem lw_d3 : decode code 3 = .ok (.dup, 1) := by decide +kernel
theorem lw_d4 : decode code 4 = .ok (.invokespecial 62, 3) := by decide +kernel
theorem lw_d7 : decode code 7 = .ok (.astore_n 1, 1) := by decide +kernel
theorem lw_d8 : decode code 8 = .ok (.new 63, 3) := by decide +kernel
theorem lw_d11 : decode code 11 = .ok (.dup, 1) := by decide +kernel
theorem lw_d12 : decode code 12 = .ok (.invokespecial 65, 3) := by decide +kernel
theorem lw_d15 : decode code 15 = .ok (.astore_n 2, 1) := by decide +kernel
theorem lw_d16 : decode code 16 = .ok (.iconst 1, 1) := by decide +kernel
theorem lw_d17 : decode code 17 = .ok (.newarray .long, 2) := by decide +kernel
theorem lw_d19 : decode code 19 = .ok (.astore_n 3, 1) := by decide +kernel
def lsB : Lo := [some (vr 12 0), some (vr 8 0), some (vr 9 0), some (vr 14 0), none, none, none]
/-- the memory as the loop begins, with the script -/
def sgS (L : Nat) (xs : Nat → Int32) : Sg := fun g j k => if g = 12 then (if j = 0 then (xs k).toInt else (L : Int)) else sg0 g j k
theorem sgS_o {L : Nat} {xs : Nat → Int32} {g : Nat} (h : ¬ g = 12) : sgS L xs g = sg0 g := by
  funext j k
  unfold sgS
  rw [if_neg h]
theorem sgS_I (L : Nat) (xs : Nat → Int32) : LI (sgS L xs) 0 0 1 ch0 none [] := ⟨ci_0.sep (fun g hg => sgS_o (by omega)), ri_0.sep (sgS_o (by omega)), fun x hx => absurd hx List.not_mem_nil⟩
theorem sgS_S (L : Nat) (xs : Nat → Int32) : Sc (sgS L xs) L := by
  refine ⟨rfl, fun j _ => ?_⟩
  show r32 (xs j).toInt
  have h1 := Int32.le_toInt (xs j)
  have h2 := Int32.toInt_lt (xs j)
  exact ⟨by simpa using h1, by omega⟩
section WS
variable {p : Program} {e : Env} {s : State} {m : MethodId} {below : List Frame} {meth : Method} {c : Code} {b L : Nat} {xs : Nat → Int32} {l : Launch}
/-- the loop, and the end -/
theorem lw_run (hl : l.stackTraces = false) (hL : L ≤ 2560) (C0 : lw_At p s m meth c b L xs) {E : En} (hZ : eZ E = s.heap.size) (hA : ∀ g j, inR g j = true → eA E g j = eZ E + IX g j) (hbE : eA E 12 0 = b) (hK : Kn E s) (hX : KX E s) {H : Heap} {locs : List Loc} {la : Array Slot} (I : I2 E MF s H locs) (Lh : Lc E 7 lsB la) : W p l e room_1 s m #[Value.ref b] below meth c H locs 169 21233 (lw_Z below #[Value.ref b] s) (F0 m 20 la []) := by
  obtain ⟨hx, hb, hr, hml, hown, hts, hsc, hbl, hlk, hgv⟩ := C0
  have hwa : ∀ w ∈ WA, w.before #[Value.ref b] s = true := fun w hw => hts w (List.mem_filter.mp hw).1
  have hS : Scr E (sgS L xs) s := by
    refine ⟨L, xs, by rw [hbE]; exact hsc, by rw [hbE, hZ]; exact hbl, rfl, by omega, fun j _ => ?_⟩
    show xs j = i3 (xs j).toInt
    exact (Int32.ofInt_toInt (xs j)).symm
  have hI : In E (sgS L xs) s H locs := in_made hA I hS (fun g hg => sgS_o hg)
  obtain ⟨n, σ', hex, h512⟩ := lw_ex (d := 0) hL (sgS_I L xs) (sgS_S L xs) (show sgS L xs 15 0 0 = 0 from rfl)
  obtain ⟨h0, hs⟩ := sndL l hl E n hex rfl (show (0 : Int) ≤ sgS L xs 15 0 0 from Int.le_refl 0)
  have hk : kC σ' ≤ 512 := by
    unfold kC
    omega
  have hk0 : kC (sgS L xs) = 0 := rfl
  have := hs (p := p) (e := e) (R := room_1) (s := s) (m := m) (args := #[Value.ref b]) (below := below) (meth := meth) (c := c) (H := H) (locs := locs) (A := 169) (B := 21233) (Q := lw_Z below #[Value.ref b] s) (la := la) (fun cells slots hc1 hc2 => ⟨hx, hb, hml, hr, hlk, hown, hwa, hK, show 0 + 8 + 1 ≤ 12 by decide, show 40 * (0 + 8 + 1) ≤ 420 by decide, hc1, hc2⟩) hX (show 11 ≤ 12 by decide) (show 280 ≤ 420 by decide) (show 169 + kC σ' + 1 ≤ 601024 by omega) (show 21233 + 6 * kC σ' + 6 ≤ 7293034 by omega) hI Lh (fun pc H' locs' la' I' hd => by
    rcases hd with ⟨z, hz, hd, -⟩ | ⟨hz, -⟩
    · cases hz
      refine va_forget (fun q hq => by rw [← hZ]; exact I'.2.2.1.2.2 q hq) (W.widen (show 169 + kC σ' ≤ 601024 by omega) (show 21233 + 6 * kC σ' ≤ 7293034 by omega) ?_)
      exact lw_ret hx hb hr hlk hd
    · cases hz)
  rw [hk0] at this
  exact this
theorem whole_start (hl : l.stackTraces = false) (hL : L ≤ 2560) (C0 : lw_At p s m meth c b L xs) : W p l e room_1 s m #[Value.ref b] below meth c s.heap [] 0 0 (lw_Z below #[Value.ref b] s) (entryFrame m ([Value.ref b] : List Value).toArray 7) := by
  have C1 := C0
  obtain ⟨hx, hb, hr, hml, hown, hts, hsc, hbl, hlk, hgv⟩ := C0
  obtain ⟨E, hZ, hE, hA, hbE, hK, hK2, hX⟩ := entry hts hgv
  have hwa : ∀ w ∈ WA, w.before #[Value.ref b] s = true := fun w hw => hts w (List.mem_filter.mp hw).1
  obtain ⟨l1, l2, l3, l4⟩ := ma_len
  have hown : s.vm.findClass "FiguredBassLaw" = some m.cls := hown
  have ev : ([Value.ref b] : List Value) = [vr 12 0].map (enc E) := by
    show [Value.ref b] = [Value.ref (eA E 12 0)]
    rw [hbE]
  have L0 : Lc E 7 [some (vr 12 0), none, none, none, none, none, none] ((lg_sl ([vr 12 0].map (enc E)) ++ List.replicate (7 - 1) Slot.unset).toArray) := by
    have hl := lv_entry ([vr 12 0].map (enc E)) (n := 7) (by rw [lg_len [vr 12 0] rfl]; decide)
    rw [lg_len [vr 12 0] rfl, lv_ini [vr 12 0] (7 - [vr 12 0].length) 0 rfl] at hl
    exact ⟨rfl, hl⟩
  have eF : entryFrame m ([Value.ref b] : List Value).toArray 7 = F0 m 0 ((lg_sl ([vr 12 0].map (enc E)) ++ List.replicate (7 - 1) Slot.unset).toArray) [] := by
    rw [ev, lg_entry_eq, lg_len [vr 12 0] rfl]
    rfl
  rw [eF]
  generalize (lg_sl ([vr 12 0].map (enc E)) ++ List.replicate (7 - 1) Slot.unset).toArray = la0 at L0 ⊢
  have I0 : I2 E [] s s.heap [] := ⟨(fun k x hx => by cases hx), by rw [hZ]; rfl, va_S.rf⟩
  have call : ∀ {w j : Nat} {M1 M2 : Me} {idx pc : Nat} {H : Heap} {locs : List Loc} {cells slots : Nat} {la : Array Slot} {n : Nat} {rest : List Value}, w < 8 → ex2 n 3 w 0 (some (vr 20 j) :: List.replicate (kLo w - 1) none) [] M1 = some M2 → Cond.methodLink "FiguredBassLaw" idx (kY w) ∈ WA → decode code pc = .ok (.invokespecial idx, 3) → I2 E M1 s H locs → la.size = 7 → rest.length ≤ 1 → (∀ v ∈ rest, v.category = 1) → cells + (M2.length - M1.length) ≤ 601024 → slots + (ss M2 - ss M1) ≤ 7293034 → (∀ H' locs', I2 E M2 s H' locs' → W p l e room_1 s m #[Value.ref b] below meth c H' locs' (cells + (M2.length - M1.length)) (slots + (ss M2 - ss M1)) (lw_Z below #[Value.ref b] s) (F0 m (pc + 3) la rest)) → W p l e room_1 s m #[Value.ref b] below meth c H locs cells slots (lw_Z below #[Value.ref b] s) (F0 m pc la (.ref (eZ E + j) :: rest)) := by
    intro w j M1 M2 idx pc H locs cells slots la n rest hw8 hex hlink hd I hls hrl hcat1 q1 q2 kk
    obtain ⟨g1, g2, g3, g4⟩ := kw hw8
    obtain ⟨g5, g6, g7, g8⟩ := kw2 hw8
    have hM := met2 (l := l) hE hw8 hex
    have hpre : ∀ U : State, U.heap = H → s.WarmedH U.vm → Px2 E j M1 (Value.ref (eZ E + j) :: []).toArray U := fun U hU hW => by
      have hS : va_S (Ag E) s.heap U.heap locs := by rw [hU]; exact I.2.2
      refine ⟨?_, by rw [hU]; exact I.1, by rw [hU]; exact I.2.1, hK2.moved hS hW⟩
      show _ = ([Value.ref (eA E 20 j)] : List Value).toArray
      rw [hE]
    have hin : ∀ w' ∈ wk w, w' ∈ WA := fun w' hw' => by
      rcases List.mem_cons.mp hw' with rfl | hw'
      · exact g1
      · exact hw'
    have hW := cwI (R := room_1) (args := #[Value.ref b]) (s := s) (own := "FiguredBassLaw") (index := idx) (y := kY w) (bytes := kB w) (maxL := kLo w) (ws := wk w) (rm := rm2 3 (M2.length - M1.length) (ss M2 - ss M1)) 0 hwa (good_in hin) rfl rfl rfl (hwa _ g2) (hwa _ hlink) (hwa _ g3) rfl ⟨g5.1, g5.2, (show (parseMethodDescriptor "()V").map (fun d => d.parameters.length) = some 0 by decide +kernel)⟩ ⟨show 3 + 1 + 1 ≤ 12 by decide, show 8 + (kLo w + 11) + 40 * (3 + 1) ≤ 420 by omega⟩
    have hsum : (rest.map fun v => v.category).sum ≤ 8 := by
      match rest, hrl, hcat1 with
      | [], _, _ => decide
      | [v], _, h => simp [h v]
      | _ :: _ :: _, h, _ => simp at h
    exact x_callx (M' := M2) (va_runI (b := eZ E + j) (As := []) (rest := rest) ⟨hx, hb, hml, hown, hwa⟩ hM hW ⟨Px2.blind, hpre⟩ rfl rfl hls rfl (by show 2 * 0 + _ ≤ 8; omega) hd ⟨q1, q2⟩) I kk
  have e0 : ∀ k, (Value.ref (eZ E + k)) = enc E (vr 20 k) := fun k => by
    show _ = Value.ref (eA E 20 k)
    rw [hE]
  have e8 : (Value.ref (eZ E + 0)) = enc E (vr 8 0) := by
    show _ = Value.ref (eA E 8 0)
    rw [hA 8 0 (by decide +kernel)]
    rfl
  have e9 : (Value.ref (eZ E + 136)) = enc E (vr 9 0) := by
    show _ = Value.ref (eA E 9 0)
    rw [hA 9 0 (by decide +kernel)]
    rfl
  have e14 : (Value.ref (eZ E + 168)) = enc E (vr 14 0) := by
    show _ = Value.ref (eA E 14 0)
    rw [hA 14 0 (by decide +kernel)]
    rfl
  refine x_new (w := 0) hx hb hown hwa hK2 I0 (by decide) kx_l8 (show 0 + 1 ≤ 601024 by decide) (show 0 + 5 ≤ 7293034 by decide) lw_d0 (fun H1 I1 => ?_)
  refine lv_dup hx hb lw_d3 rfl ?_
  refine call (w := 0) (j := 0) (M1 := [(5, 0, [])]) (by decide) ex_a kx_l62 lw_d4 I1 L0.2.1 (Nat.le_refl 1) (fun v hv => by cases hv with | head => rfl | tail _ h => cases h) (by rw [l1]; decide) (by rw [l2]; decide) (fun H2 locs2 I2' => ?_)
  rw [l1, l2]
  rw [show ([] : Me).length = 0 from rfl, e8]
  refine lv_astore_n hx hb lw_d7 rfl L0.2 (by decide) rfl (fun la1 h1 => ?_)
  have L1 : Lc E 7 [some (vr 12 0), some (vr 8 0), none, none, none, none, none] la1 := L0.set (i := 1) (v := vr 8 0) h1
  refine x_new (w := 7) hx hb hown hwa hK2 I2' (by decide) kx_l63 (show _ ≤ 601024 by decide) (show _ ≤ 7293034 by decide) lw_d8 (fun H3 I3 => ?_)
  refine lv_dup hx hb lw_d11 rfl ?_
  rw [l1]
  refine call (w := 7) (j := 136) (M1 := MA ++ [(5, 7, [])]) (by decide) ex_b kx_l65 lw_d12 I3 L1.2.1 (Nat.le_refl 1) (fun v hv => by cases hv with | head => rfl | tail _ h => cases h) (by rw [l3, List.length_append, l1]; decide) (by rw [l4, ss_app, l2]; decide) (fun H4 locs4 I4 => ?_)
  rw [l3, l4, List.length_append, ss_app, l1, l2, e9]
  refine lv_astore_n hx hb lw_d15 rfl L1.2 (by decide) rfl (fun la2 h2 => ?_)
  have L2 : Lc E 7 [some (vr 12 0), some (vr 8 0), some (vr 9 0), none, none, none, none] la2 := L1.set (i := 2) (v := vr 9 0) h2
  refine lv_iconst hx hb lw_d16 rfl ?_
  refine x_newa (z := 1) hx hb hwa hK2 I4 (show at2 .long = some 4 from rfl) (by decide) (by decide) (show _ ≤ 601024 by decide) (show _ ≤ 7293034 by decide) lw_d17 (fun H5 I5 => ?_)
  rw [l3, e14]
  refine lv_astore_n hx hb lw_d19 rfl L2.2 (by decide) rfl (fun la3 h3 => ?_)
  have L3 : Lc E 7 lsB la3 := L2.set (i := 3) (v := vr 14 0) h3
  exact lw_run hl hL C1 hZ hA hbE hK hX I5 L3
end WS
