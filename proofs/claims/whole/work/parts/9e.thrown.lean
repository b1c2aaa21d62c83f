/-! A CALL THAT THROWS, and the soundness of runs that throw -/
section TL0
variable {y pc k : Nat} {ls : Lo} {st : List Va} {σ : Sg}
theorem finX_inv {σ' : Sg} (h : stp y pc ls st σ = some (.inr (.inl (.inr k, σ')))) : σ' = σ ∧ st = [] ∧ th y pc = some k := by
  unfold stp at h
  cases hd : decode (mB y) pc with
  | error w => rw [hd] at h; cases h
  | ok w =>
  obtain ⟨i, len⟩ := w
  rw [hd] at h
  dsimp only at h
  by_cases ho : okl i len = true
  case neg => rw [if_neg ho] at h; cases h
  rw [if_pos ho] at h
  cases i
  case new k2 =>
    dsimp only [stpI] at h
    split at h
    next =>
      split at h
      next e1 h1 =>
        cases h
        exact ⟨rfl, rfl, h1⟩
      next => cases h
    next => cases h
  case ifCond cn off =>
    dsimp only [stpI] at h
    split at h
    next =>
      obtain ⟨t, -, ⟨-, h2⟩ | ⟨-, h2⟩⟩ := brn_inv h <;> cases h2
    next => cases h
  case if_icmp cn off =>
    dsimp only [stpI] at h
    split at h
    next =>
      obtain ⟨t, -, ⟨-, h2⟩ | ⟨-, h2⟩⟩ := brn_inv h <;> cases h2
    next => cases h
  all_goals first
    | exact nomatch (show (none : Option Ac) = some _ from h)
    | (dsimp only [stpI, ldi, lda, ldl, sti, sta, stl, go, fin, cal] at h; (repeat' (split at h)); all_goals cases h)
end TL0
theorem u1_err {b : ByteArray} {pc : Nat} (hp : ¬ pc < b.size) (f : Nat → Jvm.ClassFile.Decoder Instr) : ((Jvm.ClassFile.Reader.u1 : Jvm.ClassFile.Decoder Nat) >>= f).runAt b pc = .error (Jvm.ClassFile.HasTruncated.truncated pc) := by
  show ((Jvm.ClassFile.Reader.u1 : Jvm.ClassFile.Decoder Nat) b pc >>= fun q => f q.1 b q.2) = _
  have e : (Jvm.ClassFile.Reader.u1 : Jvm.ClassFile.Decoder Nat) b pc = .error (Jvm.ClassFile.HasTruncated.truncated pc) := by
    show (if h : pc < b.size then _ else _ : Jvm.ClassFile.Decoder Nat) b pc = _
    rw [dif_neg hp]
    rfl
  rw [e]
  rfl
theorem dec_lt {b : ByteArray} {pc : Nat} {x : Instr × Nat} (h : decode b pc = .ok x) : pc < b.size := by
  by_cases hp : pc < b.size
  · exact hp
  · exfalso
    unfold decode Jvm.ClassFile.Decoder.instr at h
    rw [u1_err hp] at h
    cases h
/-- how many calls of ours may lie between a method and the place that throws -/
def tl (y : Nat) : Nat := if y ≤ 12 then 2 else if y = 16 then 1 else 0
theorem tl_le (y : Nat) : tl y ≤ 2 := by
  unfold tl
  split
  · exact Nat.le_refl _
  · split <;> omega
theorem thT_le : ∀ q ∈ thT, q.1 ≤ 17 := by decide +kernel
theorem ml_thr : ∀ q ∈ mlT, q.2.2 ≤ 17 → (q.1 = 0 ∧ 13 ≤ q.2.2) ∨ q.1 = 8 := by decide +kernel
theorem mO_0 : ∀ y, y < 129 → (mO y = 0 → y ≤ 17) ∧ ¬ mO y = 8 := by decide +kernel
theorem mS_17 : ∀ y, y ≤ 17 → mS y = false := by decide +kernel
def noC (y : Nat) : Bool := (List.range (mB y).size).all fun pc => match decode (mB y) pc with
  | .ok (.invokevirtual k, _) => ((ml 0 k).map fun z => decide (z < 13 ∨ 17 < z ∨ (y = 16 ∧ z = 15))).getD true
  | _ => true
theorem noC_13 : noC 13 = true := by decide +kernel
theorem noC_14 : noC 14 = true := by decide +kernel
theorem noC_15 : noC 15 = true := by decide +kernel
theorem noC_16 : noC 16 = true := by decide +kernel
theorem noC_17 : noC 17 = true := by decide +kernel
theorem tl_call {y y' pc pc' : Nat} {ls ls' : Lo} {st st' as : List Va} {σ σ1 : Sg} (hy : y < 129) (h : stp y pc ls st σ = some (.inr (.inr (y', as, pc', ls', st', σ1)))) (h17 : y' ≤ 17) : y ≤ 17 ∧ tl y' + 1 ≤ tl y := by
  have hlt := cal_lt hy h
  obtain ⟨-, -, -, -, -, -, hcase⟩ := cal_inv hlt h
  rcases hcase with ⟨k, q, bs, hd, hm, -⟩ | ⟨k, hd, hm, hs, -⟩
  · have h1 := ml_thr _ (ml_mem hm) h17
    obtain ⟨h2, h3⟩ := mO_0 y hy
    rcases h1 with ⟨h1, h4⟩ | h1
    · have h1 : mO y = 0 := h1
      have h4 : 13 ≤ y' := h4
      have h5 := h2 h1
      refine ⟨h5, ?_⟩
      have e1 : tl y' ≤ 1 := by
        unfold tl
        rw [if_neg (by omega)]
        split <;> omega
      by_cases h12 : y ≤ 12
      · have e2 : tl y = 2 := if_pos h12
        omega
      · have hn : noC y = true := by
          rcases (by omega : y = 13 ∨ y = 14 ∨ y = 15 ∨ y = 16 ∨ y = 17) with rfl | rfl | rfl | rfl | rfl
          · exact noC_13
          · exact noC_14
          · exact noC_15
          · exact noC_16
          · exact noC_17
        have hn := List.all_eq_true.mp hn pc (List.mem_range.mpr (dec_lt hd))
        rw [hd] at hn
        dsimp only at hn
        rw [h1] at hm
        rw [hm, Option.map_some, Option.getD_some, decide_eq_true_eq] at hn
        obtain ⟨rfl, rfl⟩ : y = 16 ∧ y' = 15 := by omega
        decide
    · exact absurd h1 h3
  · rw [mS_17 y' h17] at hs
    cases hs
/-- who throws -/
theorem ex_thr : ∀ (n : Nat) {d y pc : Nat} {ls : Lo} {st : List Va} {σ σ' : Sg} {k : Nat}, ex n d y pc ls st σ = some (.inr k, σ') → y < 129 → y ≤ 17 := by
  intro n
  induction n with
  | zero => intro d y pc ls st σ σ' k h; cases h
  | succ n ih =>
    intro d y pc ls st σ σ' k h hy
    rw [ex_s] at h
    cases hs : stp y pc ls st σ with
    | none => rw [hs] at h; cases h
    | some a =>
      rw [hs] at h
      rcases a with ⟨pc', ls', st', σ1⟩ | rr | ⟨y', as, pc', ls', st', σ1⟩
      · exact ih h hy
      · cases h
        obtain ⟨-, -, hth⟩ := finX_inv hs
        exact thT_le _ (th_mem hth)
      · cases d with
        | zero => cases h
        | succ d =>
          dsimp only at h
          have hlt := cal_lt hy hs
          cases hc : ex n d y' 0 (ini y' as) [] σ1 with
          | none => rw [hc] at h; cases h
          | some q =>
            rw [hc] at h
            rcases q with ⟨v | q, σ2⟩
            · exact ih h hy
            · exact (tl_call hy hs (ih hc hlt)).1
def rmX (d y : Nat) : Room := { frames := max (d + 1) (tl y + 7), cells := 1, slots := 6, locals := max (40 * (d + 1)) (40 * tl y + 120) }
def PxX (E : En) (as : List Va) (σ : Sg) : Array Value → State → Prop := va_Pc (as.map (enc E)) (fun U => (St E σ U ∧ Kn E U ∧ Scr E σ U) ∧ KX E U)
/-- the contract of a method that throws -/
abbrev MetX (l : Launch) (y d : Nat) (E : En) (as : List Va) (σ : Sg) (k : Nat) (σ' : Sg) : Prop := MetFree l (mY y) (headSpec (wsy y) (rmX d y)) (PxX E as σ) (fun _ _ _ _ _ => True) (QX E k σ' 1 6)
section TC
variable {p : Program} {l : Launch} {e : Env} {R : Room} {s : State} {m : MethodId} {args : Array Value} {below : List Frame} {meth : Method} {c : Code} {H : Heap} {locs : List Loc} {cells slots : Nat} {Q : State → Prop} {E : En} {d y pc pc' : Nat} {σ σ1 σ2 : Sg} {la : Array Slot} {rest : List Value} {ls ls' : Lo} {st st' as : List Va} {y' k : Nat} {v : Option Va}
theorem q_len {D : String} {n : Nat} (h : (parseMethodDescriptor D).map (fun d => d.parameters.length) = some n) {sig : MethodDescriptor} (hs : parseMethodDescriptor D = some sig) : n = sig.parameters.length := by
  rw [hs] at h
  exact (Option.some.inj h).symm
theorem threw_call {U : State} {mk : MethodId} {g : JFrame} {a : Array Value} (X : Stand p l e R s m args below meth c U locs cells slots) (hg : g.method = m) (hM : MetX l y' d E as σ1 k σ2) (happ : (headSpec (wsy y') (rmX d y')).appliesLoose (mY y') e.platform (U.calling g mk a) = true) (hP : PxX E as σ1 a (U.calling g mk a)) (I : In E σ1 s U.heap locs) (h12 : σ2 12 = σ1 12) :
    ∃ (T' : State) (q : Addr) (ce : Cell) (L : List Loc), Stand p l e R s m args below meth c T' (locs ++ L) (cells + 1) (slots + 6) ∧ T'.heap[q]? = some ce ∧ ce.vm = .none ∧ s.vm.findClass (xN k) = some ce.cls ∧ In E σ2 s T'.heap (locs ++ L) ∧ ∀ acts, Steps p.tables e below (doInvoke e (U.setTop g) acts mk a).1 ((T'.setTop g).pushFrame (.throwing q)) := by
  have hfr : (U.setTop g).frames = [.java g] ++ below := by rw [State.frames_setTop' g X.here.top, X.tail]; rfl
  have hcur : (U.setTop g).cur < (U.setTop g).threads.size := State.cur_lt_of_frames hfr
  have hcf : (U.calling g mk a).frames = .invoking mk a :: (U.setTop g).frames := State.frames_setFrames _ hcur
  obtain ⟨o, s₂, hsteps, hrun, hend, hq⟩ := Steps.callRun (S := headSpec (wsy y') (rmX d y')) (x := mY y') (Qq := fun o t => QX E k σ2 1 6 a (U.calling g mk a) o t) p (acts := []) (mid := [.java g]) hfr happ (hM p e X.admits X.cas X.clock _ mk a _ hcf happ hP trivial)
  obtain ⟨q, ce, L, rfl, hce, hcv, hcl, ⟨hP2, hD2⟩, hF, hW, hsame, hL⟩ := hq
  rw [hfr] at hend
  obtain ⟨T', X', hW', hB, rfl⟩ := X.outOfThrown hg hend hW hsame
  have hcl' : s.vm.findClass (xN k) = some ce.cls := by
    rw [← X.warmed.alike.findClass]
    exact hcl
  have hh : ((T'.setTop g).pushFrame (.throwing q)).heap = T'.heap := throwing_heap T' g q
  obtain ⟨p1, p2, p3, p4⟩ := I
  rw [hh] at hce hP2
  refine ⟨T', q, ce, L, X', hce, hcv, hcl', ⟨hP2, hD2, ⟨?_, fun z z1 z2 => ?_, fun z hz => ?_⟩, ?_⟩, fun acts => by rw [doInvoke_state]; exact hsteps⟩
  · have := hF.1
    rw [hh] at this
    exact Nat.le_trans p3.1 this
  · have := hF.2 z (Nat.lt_of_lt_of_le z1 p3.1) z2
    rw [hh] at this
    exact this.trans (p3.2.1 z z1 z2)
  · rcases List.mem_append.mp hz with h | h
    · exact p3.2.2 z h
    · exact hL z h
  · obtain ⟨L, xs, x1, x2, x3, x4, x5⟩ := p4
    exact ⟨L, xs, x1, x2, by rw [h12]; exact x3, x4, fun j hj => by rw [h12]; exact x5 j hj⟩
/-- a call of the little machine whose method throws: the machine stands at the call, the exception over it -/
theorem q_threw (hlt : y' < nM) (C : Cx p R s m args meth c cells slots E (d + 1) y) (hX : KX E s) (I : In E σ s H locs) (L : Lc E (mL y) ls la) (h : stp y pc ls st σ = some (.inr (.inr (y', as, pc', ls', st', σ1)))) (hM : MetX l y' d E as σ1 k σ2) (h12 : σ2 12 = σ1 12) (r1 : tl y' + 8 ≤ R.frames) (r2 : 40 * tl y' + 160 ≤ R.locals) (r3 : cells + 1 ≤ R.cells) (r4 : slots + 6 ≤ R.slots) {T : State} (hT : T.heap = H) (X : Stand p l e R s m args below meth c T locs cells slots) :
    ∃ (T' : State) (q : Addr) (ce : Cell) (L : List Loc), Stand p l e R s m args below meth c T' (locs ++ L) (cells + 1) (slots + 6) ∧ T'.heap[q]? = some ce ∧ ce.vm = .none ∧ s.vm.findClass (xN k) = some ce.cls ∧ In E σ2 s T'.heap (locs ++ L) ∧ Steps p.tables e below (T.setTop (F0 m pc la (st.map (enc E)))) ((T'.setTop (F0 m pc la (st'.map (enc E)))).pushFrame (.throwing q)) := by
  obtain ⟨hx, hb, hml, hr, hlk, hown, hts, hK, hR1, hR2, hc1, hc2⟩ := C
  obtain ⟨hy', hnl, hst, rfl, rfl, rfl, hcase⟩ := cal_inv hlt h
  obtain ⟨m1, m2, m3, m4, m5, m6, m7, m8, m9, m10⟩ := mth_ok hy'
  have hpre : ∀ U : State, U.heap = H → s.WarmedH U.vm → PxX E as σ1 (as.map (enc E)).toArray U := fun U hU hW => by
    have hS : va_S (Ag E) s.heap U.heap locs := by rw [hU]; exact I.2.2.1
    exact ⟨rfl, ⟨⟨by rw [hU]; exact I.1, I.2.1⟩, hK.moved hS hW, I.2.2.2.moved hK.2.2.2 hS hW.alike rfl⟩, hX.move hS.2.1 hW⟩
  have hblind : ∀ (U : State) (g : JFrame) (mk : MethodId) (a : Array Value), PxX E as σ1 a U → PxX E as σ1 a (U.calling g mk a) := fun U g mk a h => by
    obtain ⟨q1, q2, q3⟩ := h
    obtain ⟨q4, q5⟩ := Px.blind a U g mk (show Px E as σ1 a U from ⟨q1, q2⟩)
    exact ⟨q4, q5, q3.move (fun _ _ _ => rfl) (State.WarmedH.refl _)⟩
  have hin : ∀ w ∈ wsy y', w ∈ WA := fun w hw => by
    rcases List.mem_cons.mp hw with rfl | hw
    · exact m1
    · exact hw
  have hcat : 2 * (F0 m pc la (st'.map (enc E))).monitorRoom + ((st'.map (enc E)).map fun v => v.category).sum ≤ 8 := by
    have := cat_le (E := E) st'
    show 2 * 0 + _ ≤ 8
    omega
  have fin : ∀ (vm₁ : Vm) (mk : MethodId) (ig : Instr), Stand p l e R s m args below meth c (T.setVm vm₁) locs cells slots → s.methodNamed? (mY y') = some mk → decode c.code pc = .ok (ig, 3) → (∀ target, (∀ acts, Steps p.tables e below (doInvoke e ((T.setVm vm₁).setTop (F0 m pc la (st'.map (enc E)))) acts mk (as.map (enc E)).toArray).1 target) → Steps p.tables e below (T.setTop (F0 m pc la (st.map (enc E)))) target) → ∃ (T' : State) (q : Addr) (ce : Cell) (L : List Loc), Stand p l e R s m args below meth c T' (locs ++ L) (cells + 1) (slots + 6) ∧ T'.heap[q]? = some ce ∧ ce.vm = .none ∧ s.vm.findClass (xN k) = some ce.cls ∧ In E σ2 s T'.heap (locs ++ L) ∧ Steps p.tables e below (T.setTop (F0 m pc la (st.map (enc E)))) ((T'.setTop (F0 m pc la (st'.map (enc E)))).pushFrame (.throwing q)) := by
    intro vm₁ mk ig X₁ hn hdg hstep
    have wd : ∀ w ∈ WA, w.before (as.map (enc E)).toArray (T.setVm vm₁) = true := fun w hw => word_at X₁.warmed (WA_good w hw) (hts w hw)
    have happ := X₁.appliesAt (S := headSpec (wsy y') (rmX d y')) (y := mY y') (bytes := mB y') (maxL := mL y') (ret := mR y') (g := F0 m pc la (st'.map (enc E))) (W := 8) (mk := mk) (a := (as.map (enc E)).toArray) rfl (L.2.1.trans hml.symm) hdg hcat (X₁.named hn) (atoms_intro fun w hw => wd w (hin w hw)) (wd _ m1) (wd _ m2) (show max (d + 1) (tl y' + 7) + 1 ≤ R.frames by omega) (show 8 + (mL y' + 11) + max (40 * (d + 1)) (40 * tl y' + 120) ≤ R.locals by omega) r3 r4
    obtain ⟨T', q, ce, L', X', a1, a2, a3, a4, a5⟩ := threw_call X₁ rfl hM happ (hblind _ _ _ _ (hpre _ hT X₁.warmed)) (show In E σ1 s (T.setVm vm₁).heap locs by rw [show (T.setVm vm₁).heap = H from hT]; exact I) h12
    exact ⟨T', q, ce, L', X', a1, a2, a3, a4, hstep _ a5⟩
  rcases hcase with ⟨k2, q, bs, hd, hm, hs, r0, r1', r2', rfl, hbs, rfl⟩ | ⟨k2, hd, hm, hs, has, rfl⟩
  · obtain ⟨n1, n2⟩ := m8 hs
    obtain ⟨-, hl⟩ := ml_ok hm (by refine ⟨?_, ?_, ?_⟩ <;> (rintro rfl; exact absurd hs (by decide)))
    obtain ⟨i, hi⟩ := rl_ix r1'
    have hcell := I.1 i _ (wl_get (E := E) (σ := σ1) hi)
    rw [mk_o r0] at hcell
    obtain ⟨r, hrc, cell, q1, q2, q3, q4⟩ := hcell
    obtain ⟨g1, g2⟩ := rol_ok r0 r1'
    have hcls := (hK.1.1 (rc q.1 q.2) _ (vwC_get g1)).2.1
    have hclsB : s.vm.findClass (cN (mO y')) = some cell.cls := by rw [q2, ← r2']; exact hcls
    have hstk : (bs.reverse ++ .inr (.inl q) :: st').map (enc E) = (bs.map (enc E)).reverse ++ .ref (eA E q.1 q.2) :: st'.map (enc E) := by
      rw [List.map_append, List.map_reverse]
      rfl
    obtain ⟨mk, methM, hnamed, hmethM, hstM, habM⟩ := Cond.instanceMethod_spec (hts _ n1)
    obtain ⟨methM', cM, hmethM', -, -, -, -, -, -, hsigM⟩ := Cond.code_spec hnamed (hts _ m1)
    cases hmethM.symm.trans hmethM'
    obtain ⟨c2, r2, m2', y1, y2, y3, y4, kP, hkP, hkPi⟩ := Cond.selects_spec (hts _ n2)
    cases hclsB.symm.trans y1
    cases (State.methodFound?_of_named hnamed m4).symm.trans y2
    cases hnamed.symm.trans y3
    have hselP : selectMethod e.platform s.vm cell.cls mk = .method mk := by rw [Launch.admits_selectMethod X.admits]; exact y4
    rw [← hb] at hd
    rw [hstk] at fin ⊢
    obtain ⟨vm₁, X₁, hstep₁⟩ := X.invokevirtual hx hown (hts _ hl) hnamed hmethM hstM hkP hkPi m4 (a := eA E q.1 q.2) (cell := cell) (by rw [hT]; exact q1) (fun z h => by rw [q3] at h; cases h) hselP hmethM habM hkP hkPi (g := F0 m pc la ((bs.map (enc E)).reverse ++ .ref (eA E q.1 q.2) :: st'.map (enc E))) rfl (argsL := bs.map (enc E)) (rest := st'.map (enc E)) (by rw [List.length_map]; exact hbs.trans (q_len m5 hsigM)) rfl hd
    exact fin vm₁ mk _ X₁ hnamed hd hstep₁
  · have n1 := m9 hs
    obtain ⟨-, hl⟩ := ml_ok hm (by refine ⟨?_, ?_, ?_⟩ <;> (rintro rfl; exact absurd hy' (by decide)))
    have hstk : (as.reverse ++ st').map (enc E) = (as.map (enc E)).reverse ++ st'.map (enc E) := by
      rw [List.map_append, List.map_reverse]
    obtain ⟨mk, hnamed⟩ := Cond.code_named (hts _ m1)
    obtain ⟨methM, cM, hmethM, -, -, -, -, -, -, hsigM⟩ := Cond.code_spec hnamed (hts _ m1)
    have hstatic := Cond.static_spec hnamed hmethM (hts _ n1)
    obtain ⟨kP, hkP, -⟩ := className_of_methodNamed hnamed
    have hinitP := Cond.initialized_spec (findClass_of_methodNamed hnamed) hkP (hts _ m2)
    rw [← hb] at hd
    rw [hstk] at fin ⊢
    obtain ⟨vm₁, X₁, hstep₁⟩ := X.invokestatic hx hown (hts _ hl) hnamed hmethM hstatic hkP hinitP m4 (g := F0 m pc la ((as.map (enc E)).reverse ++ st'.map (enc E))) rfl (argsL := as.map (enc E)) (rest := st'.map (enc E)) (by rw [List.length_map]; exact has.trans (q_len m5 hsigM)) rfl hd
    exact fin vm₁ mk _ X₁ hnamed hd hstep₁
/-- the contract of a method that throws, out of a walk of its body -/
theorem metX_of {σ' : Sg} (hy : y' < nM) (hnl : nlg as = true) (hlen : as.length ≤ mL y')
    (hw : ∀ {p : Program} {e : Env} {s : State} {m : MethodId} {args : Array Value} {below : List Frame} {meth : Method} {c : Code} {la : Array Slot}, Cx p (rmX d y') s m args meth c 0 0 E d y' → KX E s → c.exceptionTable.toList = [] → In E σ s s.heap [] → Lc E (mL y') (ini y' as) la → W p l e (rmX d y') s m args below meth c s.heap [] 0 0 (MQX below E k σ' 1 6 args s) (F0 m 0 la [])) : MetX l y' d E as σ k σ' := by
  obtain ⟨m1, m2, m3, m4, m5, m6, m7, m8, m9, m10⟩ := mth_ok hy
  refine MetFree.of_bodySF (code := mB y') (maxLocals := mL y') (ret := mR y') m10 ?_ ?_
  · intro args s m h hn
    obtain ⟨meth, c, h1, h2, h3, h4, h5, h6, -, -⟩ := Cond.code_spec hn (atoms_spec (ws := wsy y') h _ List.mem_cons_self)
    exact ⟨meth, c, h1, h2, h3, h4, h5, h6⟩
  · intro p2 e2 s2 m2' args2 below2 meth2 c2 s₁ B hml2 hv _
    obtain ⟨rfl, ⟨hSt, hKn, hSc⟩, hX⟩ := hv
    have hts2 := atoms_spec (ws := wsy y') B.pre
    have hl := lv_entry (as.map (enc E)) (n := mL y') (by rw [lg_len as hnl]; exact hlen)
    rw [lg_len as hnl, lv_ini as (mL y' - as.length) 0 hnl] at hl
    have hh0 : s₁.heap = s2.heap := by rw [B.state]; rfl
    have nh : c2.exceptionTable.toList = [] := by
      have h0 := B.noHandlers (hts2 _ List.mem_cons_self)
      have h1 : c2.exceptionTable.size = 0 := by simpa [Array.isEmpty] using h0
      exact List.eq_nil_of_length_eq_zero (by simpa using h1)
    have K := hw (p := p2) (e := e2) (s := s2) (m := m2') (args := ((as.map (enc E)).toArray)) (below := below2) (meth := meth2) (c := c2) ⟨B.exec, B.bytes, hml2, B.returns, B.notSynchronized, by rw [← m3]; exact findClass_of_methodNamed B.named, fun w hw => hts2 w (List.mem_cons_of_mem _ hw), hKn, Nat.le_max_left _ _, Nat.le_max_left _ _, Nat.zero_le _, Nat.zero_le _⟩ hX nh ⟨hSt.1, hSt.2, va_S.rf, hSc⟩ ⟨by rw [ini, List.length_append, List.length_map, List.length_replicate]; omega, hl⟩
    obtain ⟨t, a1, o, b1, b2, b3⟩ := K s₁ hh0 (Stand.of_body B)
    refine ⟨t, o, ?_, b1, b2, b3⟩
    rw [lg_entry_eq, lg_len as hnl]
    exact a1
end TC
/-- A RUN OF THE LITTLE MACHINE THAT THROWS IS A RUN OF THE MACHINE -/
theorem sndX (l : Launch) (hl : l.stackTraces = false) (E : En) : ∀ (n : Nat) {d y pc : Nat} {ls : Lo} {st : List Va} {σ σ' : Sg} {k : Nat}, ex n d y pc ls st σ = some (.inr k, σ') → y < 129 → ∀ {p : Program} {e : Env} {R : Room} {s : State} {m : MethodId} {args : Array Value} {below : List Frame} {meth : Method} {c : Code} {H : Heap} {locs : List Loc} {la : Array Slot}, Cx p R s m args meth c 0 0 E d y → KX E s → c.exceptionTable.toList = [] → tl y + 7 ≤ R.frames → 40 * tl y + 120 ≤ R.locals → 1 ≤ R.cells → 6 ≤ R.slots → In E σ s H locs → Lc E (mL y) ls la → W p l e R s m args below meth c H locs 0 0 (MQX below E k σ' 1 6 args s) (F0 m pc la (st.map (enc E))) := by
  intro n
  induction n with
  | zero => intro d y pc ls st σ σ' k h; cases h
  | succ n ih =>
    intro d y pc ls st σ σ' k h hy p e R s m args below meth c H locs la C hX hnh r1 r2 r3 r4 I L
    rw [ex_s] at h
    cases hs : stp y pc ls st σ with
    | none => rw [hs] at h; cases h
    | some a =>
      rw [hs] at h
      rcases a with ⟨pc', ls', st', σ1⟩ | rr | ⟨y', as, pc', ls', st', σ1⟩
      · exact q_go C I L hs (fun H2 locs2 la2 I2 L2 => ih h hy C hX hnh r1 r2 r3 r4 I2 L2)
      · cases h
        obtain ⟨rfl, rfl, hth⟩ := finX_inv hs
        have := q_throw (e := e) (below := below) hl C hX I L hth hnh (by omega) (by omega) (by omega) (by omega)
        exact this
      · cases d with
        | zero => cases h
        | succ d =>
          dsimp only at h
          have hlt := cal_lt hy hs
          have hi := cal_inv hlt hs
          obtain ⟨m1, m2, m3, m4, m5, m6, m7, m8, m9, m10⟩ := mth_ok hi.1
          have hlen : as.length ≤ mL y' := by
            rcases hi.2.2.2.2.2.2 with ⟨k, q, bs, -, -, h3, -, -, -, rfl, h4, -⟩ | ⟨k, -, -, h3, h4, -⟩
            · rw [List.length_cons, h4]
              rw [h3] at m7
              exact m7
            · rw [h4]
              rw [h3] at m7
              exact m7
          cases hc : ex n d y' 0 (ini y' as) [] σ1 with
          | none => rw [hc] at h; cases h
          | some q =>
            rw [hc] at h
            rcases q with ⟨v | q, σ2⟩
            · exact q_cal hlt C I L hs (Rn.met ⟨n, hc⟩ hi.1 hi.2.1 hlen) (ex_12 _ _ _ _ _ _ _ _ hc) (fun H2 locs2 I2 => ih h hy C hX hnh r1 r2 r3 r4 I2 (by rw [hi.2.2.2.2.1]; exact L))
            · dsimp only at h
              rw [hnd_lt (by omega)] at h
              cases h
              have htl := (tl_call hy hs (ex_thr n hc hlt)).2
              have hM : MetX l y' d E as σ1 k σ' := metX_of hi.1 hi.2.1 hlen (fun C2 X2 N2 I2 L2 => ih hc (st := []) hlt C2 X2 N2 (Nat.le_max_right _ _) (Nat.le_max_right _ _) (Nat.le_refl _) (Nat.le_refl _) I2 L2)
              intro T hT X
              obtain ⟨T', q, ce, L', X', a1, a2, a3, a4, a5⟩ := q_threw hlt C hX I L hs hM (ex_12 _ _ _ _ _ _ _ _ hc) (by omega) (by omega) (by omega) (by omega) hT X
              obtain ⟨b1, b2, b3, b4, b5⟩ := X'.leaveThrown q (g := F0 m pc la (st'.map (enc E))) rfl rfl rfl (by rw [hnh]; intro x hx; cases hx) C.2.2.2.2.1
              exact ⟨_, a5.trans b1, .threw q, b2, b3, q, ce, locs ++ L', rfl, a1, a2, a3, ⟨a4.1, a4.2.1⟩, ⟨a4.2.2.1.1, a4.2.2.1.2.1⟩, b4, b5.mono (by omega) (by omega), a4.2.2.1.2.2⟩
/-- THE CONTRACT of a method that throws, out of a run -/
theorem Rn.metX {l : Launch} (hl : l.stackTraces = false) {E : En} {d y : Nat} {as : List Va} {σ σ' : Sg} {k : Nat} (h : Rn d y as σ (.inr k) σ') (hy : y < nM) (hnl : nlg as = true) (hlen : as.length ≤ mL y) : MetX l y d E as σ k σ' := by
  obtain ⟨n, h⟩ := h
  exact metX_of hy hnl hlen (fun C X N I L => sndX l hl E n h (st := []) hy C X N (Nat.le_max_right _ _) (Nat.le_max_right _ _) (Nat.le_refl _) (Nat.le_refl _) I L)
