section SC
variable {p : Program} {l : Launch} {e : Env} {R : Room} {s : State} {m : MethodId} {args : Array Value} {below : List Frame} {meth : Method} {c : Code} {H : Heap} {locs : List Loc} {cells slots : Nat} {Q : State → Prop} {E : En} {d y pc pc' : Nat} {σ σ1 σ2 : Sg} {la : Array Slot} {rest : List Value} {ls ls' : Lo} {st st' as : List Va} {y' : Nat} {v : Option Va}
theorem good_in {X : List Cond} (h : ∀ w ∈ X, w ∈ WA) : GoodIn WA X := fun w hw => ⟨h w hw, WA_good w (h w hw)⟩
/-- what a call is -/
theorem cal_inv0 (h : stp y pc ls st σ = some (.inr (.inr (y', as, pc', ls', st', σ1)))) : (y' < nM ∧ nlg as = true ∧ st'.length ≤ 4 ∧ pc' = pc + 3 ∧ ls' = ls ∧ σ1 = σ ∧
    ((∃ (k : Nat) (q : Nat × Nat) (bs : List Va), decode (mB y) pc = .ok (.invokevirtual k, 3) ∧ ml (mO y) k = some y' ∧ mS y' = false ∧ rt q.1 q.2 = 5 ∧ inR q.1 q.2 = true ∧ rc q.1 q.2 = mO y' ∧ as = .inr (.inl q) :: bs ∧ bs.length = mN y' ∧ st = bs.reverse ++ .inr (.inl q) :: st') ∨
     (∃ k : Nat, decode (mB y) pc = .ok (.invokestatic k, 3) ∧ ml (mO y) k = some y' ∧ mS y' = true ∧ as.length = mN y' ∧ st = as.reverse ++ st'))) ∨ (y = 129 ∧ 130 ≤ y' ∧ nlg as = true ∧ st'.length ≤ 4 ∧ pc' = pc + 3 ∧ ls' = ls ∧ σ1 = σ ∧ ∃ k : Nat, decode (mB y) pc = .ok (.invokestatic k, 3) ∧ hl k = some y' ∧ as.length = mN y' ∧ st = as.reverse ++ st') := by
  unfold stp at h
  cases hd : decode (mB y) pc with
  | error w => rw [hd] at h; cases h
  | ok w =>
  obtain ⟨i, len⟩ := w
  rw [hd] at h
  dsimp only at h
  by_cases ho : okl i len = true
  case neg => rw [if_neg ho] at h; cases h
  rw [if_pos ho] at h
  cases i
  case invokevirtual k =>
    obtain rfl : len = 3 := by simpa [okl] using ho
    dsimp only [stpI] at h
    split at h
    next y2 hy2 =>
      split at h
      next q st2 hq =>
        split at h
        next h1 =>
          cases h
          obtain ⟨r0, r1, r2, r3, r4, r5, r6⟩ := h1
          have hlt := ml_ok hy2 (by refine ⟨?_, ?_, ?_⟩ <;> (rintro rfl; exact absurd r4 (by decide)))
          refine Or.inl ⟨hlt.1, by simpa [nlg, isLn] using r6, r3, rfl, rfl, rfl, Or.inl ⟨k, q, _, rfl, hy2, r4, r0, r1, r2, rfl, by simp; omega, ?_⟩⟩
          rw [List.reverse_reverse, ← hq, List.take_append_drop]
        next => cases h
      next => cases h
    next => cases h
  case invokestatic k =>
    obtain rfl : len = 3 := by simpa [okl] using ho
    dsimp only [stpI] at h
    split at h
    next y2 hy2 =>
      split at h
      next => split at h
              · split at h
                · cases h
                · cases h
              · cases h
      next n0 =>
        split at h
        next => split at h
                · split at h
                  · cases h
                  · cases h
                · cases h
        next n1 =>
          split at h
          next => split at h
                  · split at h
                    · cases h
                    · cases h
                  · cases h
          next n2 =>
            split at h
            next h1 =>
              cases h
              obtain ⟨r4, r5, r3, r6⟩ := h1
              have hlt := ml_ok hy2 ⟨n0, n1, n2⟩
              refine Or.inl ⟨hlt.1, by simpa [nlg] using r6, r3, rfl, rfl, rfl, Or.inr ⟨k, rfl, hy2, r4, by simp; omega, ?_⟩⟩
              rw [List.reverse_reverse, List.take_append_drop]
            next => cases h
    next =>
      split at h
      next h129 =>
        split at h
        next y2 hy2 =>
          split at h
          next h1 =>
            cases h
            obtain ⟨r5, r3, r6⟩ := h1
            refine Or.inr ⟨h129, (hl_ge hy2).1, by simpa [nlg] using r6, r3, rfl, rfl, rfl, k, rfl, hy2, by simp; omega, ?_⟩
            rw [List.reverse_reverse, List.take_append_drop]
          next => cases h
        next => cases h
      next => cases h
  case ifCond cn off =>
    dsimp only [stpI] at h
    split at h
    next =>
      obtain ⟨t, -, ⟨-, h2⟩ | ⟨-, h2⟩⟩ := brn_inv h <;> cases h2
    next => cases h
  case if_icmp cn off =>
    dsimp only [stpI] at h
    split at h
    next =>
      obtain ⟨t, -, ⟨-, h2⟩ | ⟨-, h2⟩⟩ := brn_inv h <;> cases h2
    next => cases h
  all_goals first
    | exact nomatch (show (none : Option Ac) = some _ from h)
    | (dsimp only [stpI, ldi, lda, ldl, sti, sta, stl, go, fin] at h; (repeat' (split at h)); all_goals cases h)
theorem cal_lt (hy : y < 129) (h : stp y pc ls st σ = some (.inr (.inr (y', as, pc', ls', st', σ1)))) : y' < nM := by
  rcases cal_inv0 h with h | h
  · exact h.1
  · omega
theorem cal_inv (hlt : y' < nM) (h : stp y pc ls st σ = some (.inr (.inr (y', as, pc', ls', st', σ1)))) : y' < nM ∧ nlg as = true ∧ st'.length ≤ 4 ∧ pc' = pc + 3 ∧ ls' = ls ∧ σ1 = σ ∧
    ((∃ (k : Nat) (q : Nat × Nat) (bs : List Va), decode (mB y) pc = .ok (.invokevirtual k, 3) ∧ ml (mO y) k = some y' ∧ mS y' = false ∧ rt q.1 q.2 = 5 ∧ inR q.1 q.2 = true ∧ rc q.1 q.2 = mO y' ∧ as = .inr (.inl q) :: bs ∧ bs.length = mN y' ∧ st = bs.reverse ++ .inr (.inl q) :: st') ∨
     (∃ k : Nat, decode (mB y) pc = .ok (.invokestatic k, 3) ∧ ml (mO y) k = some y' ∧ mS y' = true ∧ as.length = mN y' ∧ st = as.reverse ++ st')) := by
  rcases cal_inv0 h with h | h
  · exact h
  · exact absurd hlt (by have := h.2.1; simp only [nM]; omega)
theorem fin_inv {r : Option Va} (h : stp y pc ls st σ = some (.inr (.inl (.inl r, σ1)))) : σ1 = σ ∧ st = r.toList ∧ ((∃ z : Int, r = some (vi z) ∧ decode (mB y) pc = .ok (.ireturn, 1) ∧ (mR y = some .int ∨ (mR y = some .boolean ∧ (z = 0 ∨ z = 1)))) ∨ (r = none ∧ decode (mB y) pc = .ok (.return_, 1) ∧ mR y = none)) := by
  unfold stp at h
  cases hd : decode (mB y) pc with
  | error w => rw [hd] at h; cases h
  | ok w =>
  obtain ⟨i, len⟩ := w
  rw [hd] at h
  dsimp only at h
  by_cases ho : okl i len = true
  case neg => rw [if_neg ho] at h; cases h
  rw [if_pos ho] at h
  cases i
  case ireturn =>
    obtain rfl : len = 1 := by simpa [okl] using ho
    dsimp only [stpI] at h
    split at h
    next z =>
      split at h
      next h1 =>
        cases h
        exact ⟨rfl, rfl, Or.inl ⟨z, rfl, rfl, h1⟩⟩
      next => cases h
    next => cases h
  case return_ =>
    obtain rfl : len = 1 := by simpa [okl] using ho
    dsimp only [stpI] at h
    split at h
    next =>
      split at h
      next h1 =>
        cases h
        exact ⟨rfl, rfl, Or.inr ⟨rfl, rfl, h1⟩⟩
      next => cases h
    next => cases h
  case ifCond cn off =>
    dsimp only [stpI] at h
    split at h
    next =>
      obtain ⟨t, -, ⟨-, h2⟩ | ⟨-, h2⟩⟩ := brn_inv h <;> cases h2
    next => cases h
  case if_icmp cn off =>
    dsimp only [stpI] at h
    split at h
    next =>
      obtain ⟨t, -, ⟨-, h2⟩ | ⟨-, h2⟩⟩ := brn_inv h <;> cases h2
    next => cases h
  all_goals first
    | exact nomatch (show (none : Option Ac) = some _ from h)
    | (dsimp only [stpI, ldi, lda, ldl, sti, sta, stl, go, fin, cal] at h; (repeat' (split at h)); all_goals cases h)
/-- the call of a method that has its contract -/
theorem q_cal (hlt : y' < nM) (C : Cx p R s m args meth c cells slots E (d + 1) y) (I : In E σ s H locs) (L : Lc E (mL y) ls la) (h : stp y pc ls st σ = some (.inr (.inr (y', as, pc', ls', st', σ1)))) (hM : Met l (mY y') (wsy y') (rmd d) (Px E as σ1) (Qx E v σ2) 0 0 (Ag E)) (h12 : σ2 12 = σ1 12)
    (kk : ∀ (H' : Heap) (locs' : List Loc), In E σ2 s H' locs' → W p l e R s m args below meth c H' locs' cells slots Q (F0 m pc' la ((v.toList ++ st').map (enc E)))) : W p l e R s m args below meth c H locs cells slots Q (F0 m pc la (st.map (enc E))) := by
  obtain ⟨hx, hb, hml, hr, hlk, hown, hts, hK, hR1, hR2, hc1, hc2⟩ := C
  obtain ⟨hy', hnl, hst, rfl, rfl, rfl, hcase⟩ := cal_inv hlt h
  obtain ⟨m1, m2, m3, m4, m5, m6, m7, m8, m9, m10⟩ := mth_ok hy'
  have hpre : ∀ U : State, U.heap = H → s.WarmedH U.vm → Px E as σ1 (as.map (enc E)).toArray U := fun U hU hW => by
    have hS : va_S (Ag E) s.heap U.heap locs := by rw [hU]; exact I.2.2.1
    exact ⟨rfl, ⟨by rw [hU]; exact I.1, I.2.1⟩, hK.moved hS hW, I.2.2.2.moved hK.2.2.2 hS hW.alike rfl⟩
  have hin : ∀ w ∈ wsy y', w ∈ WA := fun w hw => by
    rcases List.mem_cons.mp hw with rfl | hw
    · exact m1
    · exact hw
  have hroom : (rmd d).frames + 1 ≤ R.frames ∧ 8 + (mL y' + 11) + (rmd d).locals ≤ R.locals := by
    simp only [rmd]
    omega
  have hcat : 2 * (F0 m pc la (st.map (enc E))).monitorRoom + ((st'.map (enc E)).map fun v => v.category).sum ≤ 8 := by
    have := cat_le (E := E) st'
    show 2 * 0 + _ ≤ 8
    omega
  have hk2 : ∀ (H' : Heap) (locs' : List Loc), In E σ2 s H' locs' → W p l e R s m args below meth c H' locs' cells slots Q (F0 m (pc + 3) la ((v.map (enc E)).toList ++ st'.map (enc E))) := fun H' locs' I' => by
    have := kk H' locs' I'
    rw [List.map_append] at this
    cases v <;> exact this
  rcases hcase with ⟨k, q, bs, hd, hm, hs, r0, r1, r2, rfl, hbs, rfl⟩ | ⟨k, hd, hm, hs, has, rfl⟩
  · obtain ⟨n1, n2⟩ := m8 hs
    obtain ⟨-, hl⟩ := ml_ok hm (by refine ⟨?_, ?_, ?_⟩ <;> (rintro rfl; exact absurd hs (by decide)))
    obtain ⟨i, hi⟩ := rl_ix r1
    have hcell := I.1 i _ (wl_get (E := E) (σ := σ1) hi)
    rw [mk_o r0] at hcell
    obtain ⟨r, hrc, cell, q1, q2, q3, q4⟩ := hcell
    obtain ⟨g1, g2⟩ := rol_ok r0 r1
    have hcls := (hK.1.1 (rc q.1 q.2) _ (vwC_get g1)).2.1
    have hrecv : ∃ cellB : Cell, H[eA E q.1 q.2]? = some cellB ∧ cellB.vm.isStatics = false ∧ s.vm.findClass (cN (mO y')) = some cellB.cls := ⟨cell, q1, by rw [q3]; rfl, by rw [q2, ← r2]; exact hcls⟩
    have hstk : (bs.reverse ++ .inr (.inl q) :: st').map (enc E) = (bs.map (enc E)).reverse ++ .ref (eA E q.1 q.2) :: st'.map (enc E) := by
      rw [List.map_append, List.map_reverse]
      rfl
    rw [hstk] at hcat ⊢
    have hW := cwV (Ts := WA) (own := cN (mO y)) (index := k) (C := cN (mO y')) (y := mY y') (bytes := mB y') (maxL := mL y') (ret := mR y') (ws := wsy y') (R := R) (mN y') hts (good_in (fun w hw => by
        rcases List.mem_append.mp hw with hw | hw
        · simp only [List.mem_cons, List.not_mem_nil, or_false] at hw
          rcases hw with rfl | rfl | rfl | rfl
          · exact hl
          · exact n1
          · exact n2
          · rw [← m3]; exact m2
        · exact hin w hw)) rfl rfl rfl ⟨m3, m4.1, m4.2, m5⟩ hroom
    exact q_callx (va_runV (As := bs.map (enc E)) (rest := st'.map (enc E)) ⟨hx, hb, hml, hown, hts⟩ hM hW ⟨Px.blind, hrecv, hpre⟩ rfl (by rw [List.length_map]; exact hbs) L.2.1 rfl hcat hd ⟨hc1, hc2⟩) I h12 hk2
  · have n1 := m9 hs
    obtain ⟨-, hl⟩ := ml_ok hm (by refine ⟨?_, ?_, ?_⟩ <;> (rintro rfl; exact absurd hy' (by decide)))
    have hstk : (as.reverse ++ st').map (enc E) = (as.map (enc E)).reverse ++ st'.map (enc E) := by
      rw [List.map_append, List.map_reverse]
    rw [hstk] at hcat ⊢
    have hW := va_cwS (Ts := WA) (own := cN (mO y)) (index := k) (y := mY y') (bytes := mB y') (maxL := mL y') (ret := mR y') (ws := wsy y') (R := R) (args := args) (s := s) (mN y') hts (good_in (fun w hw => by
        rcases List.mem_append.mp hw with hw | hw
        · simp only [List.mem_cons, List.not_mem_nil, or_false] at hw
          rcases hw with rfl | rfl | rfl
          · exact hl
          · exact n1
          · exact m2
        · exact hin w hw)) rfl rfl rfl ⟨m4.1, m4.2, m5⟩ hroom
    exact q_callx (va_runS (As := as.map (enc E)) (rest := st'.map (enc E)) ⟨hx, hb, hml, hown, hts⟩ hM hW ⟨Px.blind, hpre⟩ rfl (by rw [List.length_map]; exact has) L.2.1 rfl hcat hd ⟨hc1, hc2⟩) I h12 hk2
end SC
/-- A RUN OF THE LITTLE MACHINE IS A RUN OF THE MACHINE: from where a method stands, it comes to its return -/
theorem snd (l : Launch) (E : En) : ∀ (n : Nat) {d y pc : Nat} {ls : Lo} {st : List Va} {σ σ' : Sg} {r : Option Va}, ex n d y pc ls st σ = some (.inl r, σ') → y < 129 → ∀ {p : Program} {e : Env} {R : Room} {s : State} {m : MethodId} {args : Array Value} {below : List Frame} {meth : Method} {c : Code} {H : Heap} {locs : List Loc} {cells slots : Nat} {Q : State → Prop} {la : Array Slot}, Cx p R s m args meth c cells slots E d y → In E σ s H locs → Lc E (mL y) ls la → Rtn p l e R s m args below meth c cells slots Q E y r σ' → W p l e R s m args below meth c H locs cells slots Q (F0 m pc la (st.map (enc E))) := by
  intro n
  induction n with
  | zero => intro d y pc ls st σ σ' r h; cases h
  | succ n ih =>
    intro d y pc ls st σ σ' r h hy p e R s m args below meth c H locs cells slots Q la C I L hQ
    rw [ex_s] at h
    cases hs : stp y pc ls st σ with
    | none => rw [hs] at h; cases h
    | some a =>
      rw [hs] at h
      rcases a with ⟨pc', ls', st', σ1⟩ | rr | ⟨y', as, pc', ls', st', σ1⟩
      · exact q_go C I L hs (fun H2 locs2 la2 I2 L2 => ih h hy C I2 L2 hQ)
      · cases h
        obtain ⟨rfl, rfl, hf⟩ := fin_inv hs
        exact hQ pc H locs la I hf
      · cases d with
        | zero => cases h
        | succ d =>
          dsimp only at h
          cases hc : ex n d y' 0 (ini y' as) [] σ1 with
          | none => rw [hc] at h; cases h
          | some q =>
            rw [hc] at h
            rcases q with ⟨v | q, σ2⟩
            · have hlt := cal_lt hy hs
              have hi := cal_inv hlt hs
              obtain ⟨m1, m2, m3, m4, m5, m6, m7, m8, m9, m10⟩ := mth_ok hi.1
              have hlen : as.length ≤ mL y' := by
                rcases hi.2.2.2.2.2.2 with ⟨k, q, bs, -, -, h3, -, -, -, rfl, h4, -⟩ | ⟨k, -, -, h3, h4, -⟩
                · rw [List.length_cons, h4]
                  rw [h3] at m7
                  exact m7
                · rw [h4]
                  rw [h3] at m7
                  exact m7
              have hM : Met l (mY y') (wsy y') (rmd d) (Px E as σ1) (Qx E v σ2) 0 0 (Ag E) := by
                refine va_MetF (cc := mB y') (maxL := mL y') (ret := mR y') m10 rfl ?_
                intro p2 e2 s2 m2' args2 below2 meth2 c2 s₁ B hml2 hv
                obtain ⟨rfl, hSt, hKn, hSc⟩ := hv
                have hts2 := atoms_spec (ws := wsy y') B.pre
                rw [lg_entry_eq, lg_len as hi.2.1]
                have hl := lv_entry (as.map (enc E)) (n := mL y') (by rw [lg_len as hi.2.1]; exact hlen)
                rw [lg_len as hi.2.1, lv_ini as (mL y' - as.length) 0 hi.2.1] at hl
                exact ih hc (st := []) hlt ⟨B.exec, B.bytes, hml2, B.returns, B.notSynchronized, by rw [← m3]; exact findClass_of_methodNamed B.named, fun w hw => hts2 w (List.mem_cons_of_mem _ hw), hKn, Nat.le_refl _, Nat.le_refl _, Nat.zero_le _, Nat.zero_le _⟩ ⟨hSt.1, hSt.2, va_S.rf, hSc⟩ ⟨by rw [ini, List.length_append, List.length_map, List.length_replicate]; omega, hl⟩ (rtn_met B.exec B.bytes B.returns B.notSynchronized v)
              exact q_cal hlt C I L hs hM (ex_12 _ _ _ _ _ _ _ _ hc) (fun H2 locs2 I2 => ih h hy C I2 (by rw [hi.2.2.2.2.1]; exact L) hQ)
            · dsimp only at h
              rw [hnd_lt (by omega)] at h
              cases h
/-- THE CONTRACT of a method, out of a run -/
theorem Rn.met {l : Launch} {E : En} {d y : Nat} {as : List Va} {σ σ' : Sg} {r : Option Va} (h : Rn d y as σ (.inl r) σ') (hy : y < nM) (hnl : nlg as = true) (hlen : as.length ≤ mL y) : Met l (mY y) (wsy y) (rmd d) (Px E as σ) (Qx E r σ') 0 0 (Ag E) := by
  obtain ⟨n, h⟩ := h
  obtain ⟨m1, m2, m3, m4, m5, m6, m7, m8, m9, m10⟩ := mth_ok hy
  refine va_MetF (cc := mB y) (maxL := mL y) (ret := mR y) m10 rfl ?_
  intro p2 e2 s2 m2' args2 below2 meth2 c2 s₁ B hml2 hv
  obtain ⟨rfl, hSt, hKn, hSc⟩ := hv
  have hts2 := atoms_spec (ws := wsy y) B.pre
  rw [lg_entry_eq, lg_len as hnl]
  have hl := lv_entry (as.map (enc E)) (n := mL y) (by rw [lg_len as hnl]; exact hlen)
  rw [lg_len as hnl, lv_ini as (mL y - as.length) 0 hnl] at hl
  exact snd l E n h (st := []) hy ⟨B.exec, B.bytes, hml2, B.returns, B.notSynchronized, by rw [← m3]; exact findClass_of_methodNamed B.named, fun w hw => hts2 w (List.mem_cons_of_mem _ hw), hKn, Nat.le_refl _, Nat.le_refl _, Nat.zero_le _, Nat.zero_le _⟩ ⟨hSt.1, hSt.2, va_S.rf, hSc⟩ ⟨by rw [ini, List.length_append, List.length_map, List.length_replicate]; omega, hl⟩ (rtn_met B.exec B.bytes B.returns B.notSynchronized r)
