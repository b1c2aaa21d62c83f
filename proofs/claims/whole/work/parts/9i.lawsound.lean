/-! THE HELPERS AND THE LAW: their runs are runs of the machine -/
theorem rl_15 {g j : Nat} (h : inR g j = true) : g ≠ 15 := by
  have := inR_iff.mp h
  omega
theorem up_15g {σ : Sg} {g j k : Nat} {z : Int} (h : inR g j = true) : up σ g j k z 15 = σ 15 := by
  funext j' k'
  simp only [up]
  rw [if_neg (fun e => rl_15 h e.1.symm)]
set_option maxHeartbeats 4000000 in
set_option maxRecDepth 100000 in
theorem stp_15 {y pc : Nat} {ls : Lo} {st : List Va} {σ : Sg} {a : Ac} (h : stp y pc ls st σ = some a) : memA a 15 = σ 15 := by
  unfold stp at h
  cases hd : decode (mB y) pc with
  | error w => rw [hd] at h; cases h
  | ok w =>
  obtain ⟨i, len⟩ := w
  rw [hd] at h
  dsimp only at h
  by_cases ho : okl i len = true
  case neg => rw [if_neg ho] at h; cases h
  rw [if_pos ho] at h
  clear ho hd
  cases i
  case putfield k =>
    dsimp only [stpI] at h
    split at h
    next =>
      split at h
      next h1 =>
        cases h
        exact up_15g h1.2.1
      next => cases h
    next => cases h
  case iastore =>
    dsimp only [stpI] at h
    split at h
    next =>
      split at h
      next h1 =>
        cases h
        exact up_15g h1.2.1
      next => cases h
    next => cases h
  case lastore =>
    dsimp only [stpI] at h
    split at h
    next =>
      split at h
      next h1 =>
        cases h
        exact up_15g h1.2.1
      next => cases h
    next => cases h
  case bastore =>
    dsimp only [stpI] at h
    split at h
    next =>
      split at h
      next h1 =>
        cases h
        exact up_15g h1.2.1
      next => cases h
    next => cases h
  case ifCond =>
    dsimp only [stpI] at h
    split at h
    next =>
      obtain ⟨t, -, ⟨-, rfl⟩ | ⟨-, rfl⟩⟩ := brn_inv h <;> rfl
    next => cases h
  case if_icmp =>
    dsimp only [stpI] at h
    split at h
    next =>
      obtain ⟨t, -, ⟨-, rfl⟩ | ⟨-, rfl⟩⟩ := brn_inv h <;> rfl
    next => cases h
  all_goals first
    | exact nomatch (show (none : Option Ac) = some _ from h)
    | (dsimp only [stpI, ldi, lda, ldl, sti, sta, stl, go, fin, cal] at h; (repeat' (split at h)); all_goals first | (cases h; rfl) | cases h)

/-- a run below the law leaves the count of what was caught -/
theorem ex_15 : ∀ (n d y pc : Nat) (ls : Lo) (st : List Va) (σ : Sg) (x : Rs × Sg), ex n d y pc ls st σ = some x → y < 129 → x.2 15 = σ 15 := by
  intro n
  induction n with
  | zero => intro d y pc ls st σ x h; cases h
  | succ n ih =>
    intro d y pc ls st σ x h hy
    rw [ex_s] at h
    cases hs : stp y pc ls st σ with
    | none => rw [hs] at h; cases h
    | some a =>
      rw [hs] at h
      have h0 := stp_15 hs
      rcases a with ⟨pc', ls', st', σ'⟩ | r | ⟨y', as, pc', ls', st', σ'⟩
      · exact (ih _ _ _ _ _ _ _ h hy).trans h0
      · cases h
        exact h0
      · cases d with
        | zero => cases h
        | succ d' =>
          dsimp only at h
          cases hc : ex n d' y' 0 (ini y' as) [] σ' with
          | none => rw [hc] at h; cases h
          | some q =>
            have h1 := ih _ _ _ _ _ _ _ hc (cal_lt hy hs)
            rw [hc] at h
            rcases q with ⟨v | q, σ2⟩
            · exact (ih _ _ _ _ _ _ _ h hy).trans (h1.trans h0)
            · dsimp only at h
              rw [hnd_lt (by omega)] at h
              cases h
              exact h1.trans h0
abbrev dl (σ σ' : Sg) : Nat := (σ' 15 0 0 - σ 15 0 0).toNat
/-- A HELPER'S RUN -/
theorem sndH (l : Launch) (hl : l.stackTraces = false) (E : En) : ∀ (n : Nat) {d y pc : Nat} {ls : Lo} {st : List Va} {σ σ' : Sg} {r : Option Va}, ex n d y pc ls st σ = some (.inl r, σ') → 130 ≤ y → y < 143 → (σ 15 0 0 ≤ σ' 15 0 0 ∧ σ' 15 0 0 ≤ σ 15 0 0 + 1) ∧ ∀ {p : Program} {e : Env} {R : Room} {s : State} {m : MethodId} {args : Array Value} {below : List Frame} {meth : Method} {c : Code} {H : Heap} {locs : List Loc} {la : Array Slot}, Cx p R s m args meth c 0 0 E d y → KX E s → c.exceptionTable.toList.map (fun h => (h.startPc, h.endPc, h.handlerPc, h.catchType)) = hX y → 10 ≤ R.frames → 240 ≤ R.locals → 1 ≤ R.cells → 6 ≤ R.slots → In E σ s H locs → Lc E (mL y) ls la → W p l e R s m args below meth c H locs 0 0 (MQ below (Qx E r σ') args s (dl σ σ') (6 * dl σ σ') (Ag E)) (F0 m pc la (st.map (enc E))) := by
  intro n
  induction n with
  | zero => intro d y pc ls st σ σ' r h; cases h
  | succ n ih =>
    intro d y pc ls st σ σ' r h y1 y2
    have hyP := hy_ok y1 y2
    rw [ex_s] at h
    cases hs : stp y pc ls st σ with
    | none => rw [hs] at h; cases h
    | some a =>
      rw [hs] at h
      have h15 := stp_15 hs
      rcases a with ⟨pc', ls', st', σ1⟩ | rr | ⟨y', as, pc', ls', st', σ1⟩
      · have e15 : σ1 15 = σ 15 := h15
        obtain ⟨b1, b2⟩ := ih h y1 y2
        rw [e15] at b1
        refine ⟨b1, ?_⟩
        intro p e R s m args below meth c H locs la C hX1 ht r1 r2 r3 r4 I L
        rw [show dl σ σ' = dl σ1 σ' by unfold dl; rw [e15]]
        exact q_go C I L hs (fun H2 locs2 la2 I2 L2 => b2 C hX1 ht r1 r2 r3 r4 I2 L2)
      · cases h
        obtain ⟨rfl, rfl, hf⟩ := fin_inv hs
        refine ⟨⟨by omega, by omega⟩, ?_⟩
        intro p e R s m args below meth c H locs la C hX1 ht r1 r2 r3 r4 I L
        have e0 : dl σ' σ' = 0 := by unfold dl; omega
        rw [e0]
        exact rtn_met C.1 C.2.1 C.2.2.2.1 C.2.2.2.2.1 r pc _ _ _ I hf
      · cases d with
        | zero => cases h
        | succ d =>
          dsimp only at h
          have hlt : y' < nM := by
            rcases cal_inv0 hs with h | h
            · exact h.1
            · omega
          have hi := cal_inv hlt hs
          obtain ⟨m1, m2, m3, m4, m5, m6, m7, m8, m9, m10⟩ := mth_ok hi.1
          have hlen : as.length ≤ mL y' := by
            rcases hi.2.2.2.2.2.2 with ⟨k, q, bs, -, -, h3, -, -, -, rfl, h4, -⟩ | ⟨k, -, -, h3, h4, -⟩
            · rw [List.length_cons, h4]
              rw [h3] at m7
              exact m7
            · rw [h4]
              rw [h3] at m7
              exact m7
          have e1 : σ1 = σ := hi.2.2.2.2.2.1
          cases hc : ex n d y' 0 (ini y' as) [] σ1 with
          | none => rw [hc] at h; cases h
          | some q =>
            have e15 : q.2 15 = σ1 15 := ex_15 _ _ _ _ _ _ _ _ hc hlt
            rw [hc] at h
            rcases q with ⟨v | q, σ2⟩
            · have e15 : σ2 15 = σ1 15 := e15
              rw [e1] at e15
              obtain ⟨b1, b2⟩ := ih h y1 y2
              rw [e15] at b1
              refine ⟨b1, ?_⟩
              intro p e R s m args below meth c H locs la C hX1 ht r1 r2 r3 r4 I L
              rw [show dl σ σ' = dl σ2 σ' by unfold dl; rw [e15]]
              exact q_cal hlt C I L hs (Rn.met ⟨n, hc⟩ hi.1 hi.2.1 hlen) (ex_12 _ _ _ _ _ _ _ _ hc) (fun H2 locs2 I2 => b2 C hX1 ht r1 r2 r3 r4 I2 (by rw [hi.2.2.2.2.1]; exact L))
            · have e15 : σ2 15 = σ1 15 := e15
              rw [e1] at e15
              dsimp only at h
              cases hh : hnd y pc q with
              | none => rw [hh] at h; cases h
              | some w =>
                rw [hh] at h
                cases h
                have z1 : up σ2 15 0 0 (σ2 15 0 0 + 1) 15 0 0 = σ 15 0 0 + 1 := by
                  rw [e15]
                  simp [up]
                have e0 : dl σ (up σ2 15 0 0 (σ2 15 0 0 + 1)) = 1 := by unfold dl; rw [z1]; omega
                refine ⟨by rw [z1]; omega, ?_⟩
                intro p e R s m args below meth c H locs la C hX1 ht r1 r2 r3 r4 I L
                rw [e0]
                have hM : MetX l y' d E as σ1 q σ2 := Rn.metX hl ⟨n, hc⟩ hi.1 hi.2.1 hlen
                intro T hT X
                have htl := tl_le y'
                obtain ⟨T', qa, ce, L', X', a1, a2, a3, a4, a5⟩ := q_threw hlt C hX1 I L hs hM (ex_12 _ _ _ _ _ _ _ _ hc) (by omega) (by omega) (by omega) (by omega) hT X
                obtain ⟨t, c1, c2⟩ := q_catch (rest := st'.map (enc E)) hyP C hX1 ht L hh X' a1 a2 a3 a4
                exact ⟨t, a5.trans c1, c2⟩
def rmH (d : Nat) : Room := { frames := max (d + 1) 10, cells := 1, slots := 6, locals := max (40 * (d + 1)) 240 }
/-- the contract of a helper -/
abbrev MetH (l : Launch) (y d : Nat) (E : En) (as : List Va) (σ : Sg) (r : Option Va) (σ' : Sg) : Prop := MetFree l (mY y) (headSpec WA (rmH d)) (PxX E as σ) (fun _ _ _ _ _ => True) (fun a st o t => Qx E r σ' a st o t ∧ ∃ L, FrameEnd st o t L (dl σ σ') (6 * dl σ σ') ∧ ∀ q ∈ L, Ag E q.base)
theorem Rn.metH {l : Launch} (hl : l.stackTraces = false) {E : En} {d y : Nat} {as : List Va} {σ σ' : Sg} {r : Option Va} (h : Rn d y as σ (.inl r) σ') (y1 : 130 ≤ y) (y2 : y < 143) (hnl : nlg as = true) (hlen : as.length ≤ mL y) : MetH l y d E as σ r σ' := by
  obtain ⟨n, h⟩ := h
  obtain ⟨q1, q2, q3, q4, q5, q6, q7, q8, q9⟩ := hy_ok y1 y2
  obtain ⟨-, hw⟩ := sndH l hl E n h y1 y2
  refine MetFree.of_bodySF (code := mB y) (maxLocals := mL y) (ret := mR y) q7 ?_ ?_
  · intro args s m h hn
    obtain ⟨m', meth, c, h0, h1, h2, h3, h4, -, h5, h6, -⟩ := Cond.codeWith_spec (atoms_spec (ws := WA) h _ q4)
    cases hn.symm.trans h0
    exact ⟨meth, c, h1, h2, h3, h4, h5, h6⟩
  · intro p2 e2 s2 m2' args2 below2 meth2 c2 s₁ B hml2 hv _
    obtain ⟨rfl, ⟨hSt, hKn, hSc⟩, hX1⟩ := hv
    have hts2 := atoms_spec (ws := WA) B.pre
    obtain ⟨m', meth, c, h0, h1, h2, -, -, h3, -, -, -⟩ := Cond.codeWith_spec (hts2 _ q4)
    cases B.named.symm.trans h0
    cases B.method.symm.trans h1
    cases (Stand.of_body B).code.symm.trans h2
    have hl2 := lv_entry (as.map (enc E)) (n := mL y) (by rw [lg_len as hnl]; exact hlen)
    rw [lg_len as hnl, lv_ini as (mL y - as.length) 0 hnl] at hl2
    have hh0 : s₁.heap = s2.heap := by rw [B.state]; rfl
    have K := hw (p := p2) (e := e2) (R := rmH d) (s := s2) (m := m2') (args := ((as.map (enc E)).toArray)) (below := below2) (H := s2.heap) (locs := []) (la := (lg_sl (as.map (enc E)) ++ List.replicate (mL y - as.length) Slot.unset).toArray) ⟨B.exec, B.bytes, hml2, B.returns, B.notSynchronized, by rw [q1.1]; show s2.vm.findClass "FiguredBassLaw" = some m2'.cls; rw [← q8]; exact findClass_of_methodNamed B.named, fun w hw => hts2 w hw, hKn, Nat.le_max_left _ _, Nat.le_max_left _ _, Nat.zero_le _, Nat.zero_le _⟩ hX1 h3 (Nat.le_max_right _ _) (Nat.le_max_right _ _) (Nat.le_refl _) (Nat.le_refl _) ⟨hSt.1, hSt.2, va_S.rf, hSc⟩ ⟨by rw [ini, List.length_append, List.length_map, List.length_replicate]; omega, hl2⟩
    obtain ⟨t, a1, o, b1, b2, b3⟩ := K s₁ hh0 (Stand.of_body B)
    refine ⟨t, o, ?_, b1, b2, b3⟩
    rw [lg_entry_eq, lg_len as hnl]
    exact a1
section HL
variable {p : Program} {l : Launch} {e : Env} {R : Room} {s : State} {m : MethodId} {args : Array Value} {below : List Frame} {meth : Method} {c : Code} {H : Heap} {locs : List Loc} {cells slots : Nat} {Q : State → Prop} {E : En} {d y pc pc' : Nat} {σ σ1 σ2 : Sg} {la : Array Slot} {rest : List Value} {ls ls' : Lo} {st st' as : List Va} {y' k : Nat} {v : Option Va}
theorem ret_call {U : State} {mk : MethodId} {g : JFrame} {a : Array Value} {S : Spec} {x : MethodName} {P : Array Value → State → Prop} {mc ms : Nat} {ig : Instr} (X : Stand p l e R s m args below meth c U locs cells slots) (hg : g.method = m) (hdg : decode c.code g.pc = .ok (ig, 3)) (hM : MetFree l x S P (fun _ _ _ _ _ => True) (fun a st o t => Qx E v σ2 a st o t ∧ ∃ L, FrameEnd st o t L mc ms ∧ ∀ q ∈ L, Ag E q.base)) (happ : S.appliesLoose x e.platform (U.calling g mk a) = true) (hP : P a (U.calling g mk a)) (I : In E σ1 s U.heap locs) (h12 : σ2 12 = σ1 12) :
    ∃ (T' : State) (L : List Loc), Stand p l e R s m args below meth c T' (locs ++ L) (cells + mc) (slots + ms) ∧ In E σ2 s T'.heap (locs ++ L) ∧ ∀ acts, Steps p.tables e below (doInvoke e (U.setTop g) acts mk a).1 (T'.setTop { g with pc := g.pc + 3, stack := (v.map (enc E)).toList ++ g.stack }) := by
  have hfr : (U.setTop g).frames = [.java g] ++ below := by rw [State.frames_setTop' g X.here.top, X.tail]; rfl
  have hcur : (U.setTop g).cur < (U.setTop g).threads.size := State.cur_lt_of_frames hfr
  have hcf : (U.calling g mk a).frames = .invoking mk a :: (U.setTop g).frames := State.frames_setFrames _ hcur
  obtain ⟨o, s₂, hsteps, hrun, hend, hq⟩ := Steps.callRun (S := S) (x := x) (Qq := fun o t => Qx E v σ2 a (U.calling g mk a) o t ∧ ∃ L, FrameEnd (U.calling g mk a) o t L mc ms ∧ ∀ q ∈ L, Ag E q.base) p (acts := []) (mid := [.java g]) hfr happ (hM p e X.admits X.cas X.clock _ mk a _ hcf happ hP trivial)
  obtain ⟨⟨⟨rfl, hP2, hD2⟩, hF1, hF2⟩, L, ⟨-, hW, hsame⟩, hL⟩ := hq
  rw [hfr] at hend
  obtain ⟨T', X', hW', hB, e1⟩ := X.outOf hg hdg hend hW hsame
  have hh : s₂.heap = T'.heap := by
    rw [e1]
    simp [State.setTop, State.modifyTopJava]
  have hU : (U.calling g mk a).heap = U.heap := rfl
  rw [hU] at hF1 hF2
  rw [hh] at hP2 hF1 hF2
  obtain ⟨p1, p2, p3, p4⟩ := I
  refine ⟨T', L, X', ⟨hP2, hD2, ⟨Nat.le_trans p3.1 hF1, fun z z1 z2 => (hF2 z (Nat.lt_of_lt_of_le z1 p3.1) z2).trans (p3.2.1 z z1 z2), fun z hz => ?_⟩, ?_⟩, fun acts => by rw [doInvoke_state, ← e1]; exact hsteps⟩
  · rcases List.mem_append.mp hz with h | h
    · exact p3.2.2 z h
    · exact hL z h
  · obtain ⟨L, xs, x1, x2, x3, x4, x5⟩ := p4
    exact ⟨L, xs, x1, x2, by rw [h12]; exact x3, x4, fun j hj => by rw [h12]; exact x5 j hj⟩
/-- a helper's contract applies where the law calls it -/
theorem help_app {U : State} {mk : MethodId} {g : JFrame} {a : Array Value} {ig : Instr} (X : Stand p l e R s m args below meth c U locs cells slots) (hy : hyP y') (hts : ∀ w ∈ WA, w.before args s = true) (hg : g.method = m) (hsz : g.locals.size = c.maxLocals) (hdg : decode c.code g.pc = .ok (ig, 3)) (hn : s.methodNamed? (mY y') = some mk) (hcat : 2 * g.monitorRoom + (g.stack.map fun v => v.category).sum ≤ 8) (r1 : max (d + 1) 10 + 1 ≤ R.frames) (r2 : max (40 * (d + 1)) 240 + 40 ≤ R.locals) (r3 : cells + 1 ≤ R.cells) (r4 : slots + 6 ≤ R.slots) : (headSpec WA (rmH d)).appliesLoose (mY y') e.platform (U.calling g mk a) = true := by
  obtain ⟨q1, q2, q3, q4, q5, q6, q7, q8, q9⟩ := hy
  have wd : ∀ w ∈ WA, w.before a U = true := fun w hw => word_at X.warmed (WA_good w hw) (hts w hw)
  obtain ⟨mk2, methY, cY, hn2, hmY, hcY, -, hlY, -, -, -, -⟩ := Cond.codeWith_spec (wd _ q4)
  have hn' : U.methodNamed? (mY y') = some mk := X.named hn
  cases hn'.symm.trans hn2
  obtain ⟨kY, hkY, -⟩ := className_of_methodNamed hn'
  have hini2 : (Cond.initialized (mY y').cls).before a U = true := by rw [q8]; exact wd _ li_ok
  have hinitY : kY.init = .initialized := Cond.initialized_spec (findClass_of_methodNamed hn') hkY hini2
  subst hg
  exact Spec.appliesLoose_calling (g := g) X.here hdg hn' hkY hinitY (X.room_calling (g := g) (R' := rmH d) hsz hmY hcY r1 (by rw [hlY]; show 2 * g.monitorRoom + (g.stack.map fun v => v.category).sum + (mL y' + 11) + max (40 * (d + 1)) 240 ≤ R.locals; omega) r3 r4) (atoms_intro fun w hw => wd w hw)
/-- the law calls a helper -/
theorem q_help (hy : y = 129) (C : Cx p R s m args meth c cells slots E (d + 1) y) (hX1 : KX E s) (I : In E σ s H locs) (L : Lc E (mL y) ls la) (h : stp y pc ls st σ = some (.inr (.inr (y', as, pc', ls', st', σ1)))) (hge : 130 ≤ y') (hM : MetH l y' d E as σ1 v σ2) (h12 : σ2 12 = σ1 12) (r1 : 11 ≤ R.frames) (r2 : 280 ≤ R.locals) (r3 : cells + 1 ≤ R.cells) (r4 : slots + 6 ≤ R.slots)
    (kk : ∀ (H' : Heap) (locs' : List Loc), In E σ2 s H' locs' → W p l e R s m args below meth c H' locs' (cells + dl σ1 σ2) (slots + 6 * dl σ1 σ2) Q (F0 m pc' la ((v.toList ++ st').map (enc E)))) : W p l e R s m args below meth c H locs cells slots Q (F0 m pc la (st.map (enc E))) := by
  obtain ⟨hx, hb, hml, hr, hlk, hown, hts, hK, hR1, hR2, hc1, hc2⟩ := C
  rw [show mO y = 8 by rw [hy]; rfl] at hown
  have hown : s.vm.findClass "FiguredBassLaw" = some m.cls := hown
  rcases cal_inv0 h with h' | ⟨-, -, hnl, hst, rfl, rfl, rfl, k, hd, hh, has, rfl⟩
  · exact absurd h'.1 (by simp only [nM]; omega)
  have hlt := (hl_ge hh).2
  have hyy := hy_ok hge hlt
  obtain ⟨q1, q2, q3, q4, q5, q6, q7, q8, q9⟩ := hy_ok hge hlt
  have hpre : ∀ U : State, U.heap = H → s.WarmedH U.vm → PxX E as σ1 (as.map (enc E)).toArray U := fun U hU hW => by
    have hS : va_S (Ag E) s.heap U.heap locs := by rw [hU]; exact I.2.2.1
    exact ⟨rfl, ⟨⟨by rw [hU]; exact I.1, I.2.1⟩, hK.moved hS hW, I.2.2.2.moved hK.2.2.2 hS hW.alike rfl⟩, hX1.move hS.2.1 hW⟩
  have hblind : ∀ (U : State) (g : JFrame) (mk : MethodId) (a : Array Value), PxX E as σ1 a U → PxX E as σ1 a (U.calling g mk a) := fun U g mk a h => by
    obtain ⟨z1, z2, z3⟩ := h
    obtain ⟨z4, z5⟩ := Px.blind a U g mk (show Px E as σ1 a U from ⟨z1, z2⟩)
    exact ⟨z4, z5, z3.move (fun _ _ _ => rfl) (State.WarmedH.refl _)⟩
  have hcat : 2 * (F0 m pc la (st'.map (enc E))).monitorRoom + ((st'.map (enc E)).map fun v => v.category).sum ≤ 8 := by
    have := cat_le (E := E) st'
    show 2 * 0 + _ ≤ 8
    omega
  have hstk : (as.reverse ++ st').map (enc E) = (as.map (enc E)).reverse ++ st'.map (enc E) := by
    rw [List.map_append, List.map_reverse]
  have hyc : (mY y').cls ≠ "java/lang/invoke/MethodHandle" ∧ (mY y').cls ≠ "java/lang/invoke/VarHandle" := by
    rw [q8]
    exact ⟨by decide, by decide⟩
  obtain ⟨mk, methM, cM, hnamed, hmethM, hcodeM, -, hlocM, -, -, -, hsigM⟩ := Cond.codeWith_spec (hts _ q4)
  have hstatic := Cond.static_spec hnamed hmethM (hts _ q5)
  obtain ⟨kP, hkP, -⟩ := className_of_methodNamed hnamed
  have hini : (Cond.initialized (mY y').cls).before args s = true := by rw [q8]; exact hts _ li_ok
  have hinitP := Cond.initialized_spec (findClass_of_methodNamed hnamed) hkP hini
  rw [← hb] at hd
  rw [hstk]
  intro T hT X
  obtain ⟨vm₁, X₁, hstep⟩ := X.invokestatic hx hown (hts _ (hl_ok hh)) hnamed hmethM hstatic hkP hinitP hyc (g := F0 m pc la ((as.map (enc E)).reverse ++ st'.map (enc E))) rfl (argsL := as.map (enc E)) (rest := st'.map (enc E)) (by rw [List.length_map]; exact has.trans (q_len q9 hsigM)) rfl hd
  have happ := help_app (d := d) (a := (as.map (enc E)).toArray) (g := F0 m pc la (st'.map (enc E))) X₁ hyy hts rfl (L.2.1.trans hml.symm) hd hnamed hcat (by omega) (by omega) r3 r4
  have hI : In E σ1 s (T.setVm vm₁).heap locs := by rw [show (T.setVm vm₁).heap = H from hT]; exact I
  obtain ⟨T', L2, X', hI2, hst2⟩ := ret_call (g := F0 m pc la (st'.map (enc E))) (mk := mk) (a := (as.map (enc E)).toArray) (S := headSpec WA (rmH d)) (x := mY y') (P := PxX E as σ1) (mc := dl σ1 σ2) (ms := 6 * dl σ1 σ2) X₁ rfl hd hM happ (hblind _ _ _ _ (hpre _ hT X₁.warmed)) hI h12
  obtain ⟨t, a1, b1⟩ := kk T'.heap (locs ++ L2) hI2 T' rfl X'
  refine ⟨t, hstep _ (fun acts => (hst2 acts).trans ?_), b1⟩
  have e1 : (v.map (enc E)).toList ++ st'.map (enc E) = (v.toList ++ st').map (enc E) := by
    rw [List.map_append]
    cases v <;> rfl
  show Steps p.tables e below (T'.setTop { (F0 m pc la (st'.map (enc E))) with pc := pc + 3, stack := (v.map (enc E)).toList ++ st'.map (enc E) }) t
  rw [e1]
  exact a1
end HL
abbrev kC (σ : Sg) : Nat := (σ 15 0 0).toNat
/-- THE LAW'S RUN: it comes to its return; a cell for each exception that was caught -/
theorem sndL (l : Launch) (hl : l.stackTraces = false) (E : En) : ∀ (n : Nat) {d y pc : Nat} {ls : Lo} {st : List Va} {σ σ' : Sg} {r : Option Va}, ex n d y pc ls st σ = some (.inl r, σ') → y = 129 → 0 ≤ σ 15 0 0 → σ 15 0 0 ≤ σ' 15 0 0 ∧ ∀ {p : Program} {e : Env} {R : Room} {s : State} {m : MethodId} {args : Array Value} {below : List Frame} {meth : Method} {c : Code} {H : Heap} {locs : List Loc} {A B : Nat} {Q : State → Prop} {la : Array Slot}, (∀ cells slots, cells ≤ R.cells → slots ≤ R.slots → Cx p R s m args meth c cells slots E d y) → KX E s → 11 ≤ R.frames → 280 ≤ R.locals → A + kC σ' + 1 ≤ R.cells → B + 6 * kC σ' + 6 ≤ R.slots → In E σ s H locs → Lc E (mL y) ls la → Rtn p l e R s m args below meth c (A + kC σ') (B + 6 * kC σ') Q E y r σ' → W p l e R s m args below meth c H locs (A + kC σ) (B + 6 * kC σ) Q (F0 m pc la (st.map (enc E))) := by
  intro n
  induction n with
  | zero => intro d y pc ls st σ σ' r h; cases h
  | succ n ih =>
    intro d y pc ls st σ σ' r h hy h0
    rw [ex_s] at h
    cases hs : stp y pc ls st σ with
    | none => rw [hs] at h; cases h
    | some a =>
      rw [hs] at h
      have h15 := stp_15 hs
      rcases a with ⟨pc', ls', st', σ1⟩ | rr | ⟨y', as, pc', ls', st', σ1⟩
      · have e15 : σ1 15 = σ 15 := h15
        obtain ⟨b1, b2⟩ := ih h hy (by rw [e15]; exact h0)
        rw [e15] at b1
        refine ⟨b1, ?_⟩
        intro p e R s m args below meth c H locs A B Q la C hX1 r1 r2 r3 r4 I L hQ
        rw [show kC σ = kC σ1 by unfold kC; rw [e15]]
        have : kC σ1 ≤ kC σ' := by unfold kC; rw [e15]; omega
        exact q_go (C _ _ (by omega) (by omega)) I L hs (fun H2 locs2 la2 I2 L2 => b2 C hX1 r1 r2 r3 r4 I2 L2 hQ)
      · cases h
        obtain ⟨rfl, rfl, hf⟩ := fin_inv hs
        refine ⟨by omega, ?_⟩
        intro p e R s m args below meth c H locs A B Q la C hX1 r1 r2 r3 r4 I L hQ
        exact hQ pc H locs la I hf
      · cases d with
        | zero => cases h
        | succ d =>
          dsimp only at h
          by_cases hlt : y' < nM
          · have hi := cal_inv hlt hs
            obtain ⟨m1, m2, m3, m4, m5, m6, m7, m8, m9, m10⟩ := mth_ok hi.1
            have hlen : as.length ≤ mL y' := by
              rcases hi.2.2.2.2.2.2 with ⟨k, q, bs, -, -, h3, -, -, -, rfl, h4, -⟩ | ⟨k, -, -, h3, h4, -⟩
              · rw [List.length_cons, h4]
                rw [h3] at m7
                exact m7
              · rw [h4]
                rw [h3] at m7
                exact m7
            have e1 : σ1 = σ := hi.2.2.2.2.2.1
            cases hc : ex n d y' 0 (ini y' as) [] σ1 with
            | none => rw [hc] at h; cases h
            | some q =>
              have e15 : q.2 15 = σ1 15 := ex_15 _ _ _ _ _ _ _ _ hc hlt
              rw [hc] at h
              rcases q with ⟨v | q, σ2⟩
              · have e15 : σ2 15 = σ1 15 := e15
                rw [e1] at e15
                obtain ⟨b1, b2⟩ := ih h hy (by rw [e15]; exact h0)
                rw [e15] at b1
                refine ⟨b1, ?_⟩
                intro p e R s m args below meth c H locs A B Q la C hX1 r1 r2 r3 r4 I L hQ
                rw [show kC σ = kC σ2 by unfold kC; rw [e15]]
                have : kC σ2 ≤ kC σ' := by unfold kC; rw [e15]; omega
                exact q_cal hlt (C _ _ (by omega) (by omega)) I L hs (Rn.met ⟨n, hc⟩ hi.1 hi.2.1 hlen) (ex_12 _ _ _ _ _ _ _ _ hc) (fun H2 locs2 I2 => b2 C hX1 r1 r2 r3 r4 I2 (by rw [hi.2.2.2.2.1]; exact L) hQ)
              · dsimp only at h
                rw [hnd_lt (by omega)] at h
                cases h
          · rcases cal_inv0 hs with h' | ⟨-, hge, hnl, hst, rfl, rfl, rfl, k, hd, hh, has, hst2⟩
            · exact absurd h'.1 hlt
            · have hlt2 := (hl_ge hh).2
              obtain ⟨q1, q2, q3, q4, q5, q6, q7, q8, q9⟩ := hy_ok hge hlt2
              cases hc : ex n d y' 0 (ini y' as) [] σ1 with
              | none => rw [hc] at h; cases h
              | some q =>
                rw [hc] at h
                rcases q with ⟨v | q, σ2⟩
                · obtain ⟨g1, -⟩ := sndH l hl E n hc hge hlt2
                  obtain ⟨b1, b2⟩ := ih h hy (by omega)
                  refine ⟨by omega, ?_⟩
                  intro p e R s m args below meth c H locs A B Q la C hX1 r1 r2 r3 r4 I L hQ
                  have hk : kC σ2 ≤ kC σ' := by unfold kC; omega
                  have hk1 : kC σ1 ≤ kC σ2 := by unfold kC; omega
                  have hdl : kC σ1 + dl σ1 σ2 = kC σ2 := by unfold kC dl; omega
                  refine q_help hy (C _ _ (by omega) (by omega)) hX1 I L hs hge (Rn.metH hl ⟨n, hc⟩ hge hlt2 hnl (by omega)) (ex_12 _ _ _ _ _ _ _ _ hc) (by omega) (by omega) (by omega) (by omega) (fun H2 locs2 I2 => ?_)
                  have := b2 (e := e) (below := below) C hX1 r1 r2 r3 r4 I2 L hQ
                  rw [show A + kC σ1 + dl σ1 σ2 = A + kC σ2 by omega, show B + 6 * kC σ1 + 6 * dl σ1 σ2 = B + 6 * kC σ2 by omega]
                  exact this
                · dsimp only at h
                  rw [hnd_lt (by omega)] at h
                  cases h
