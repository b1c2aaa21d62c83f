/-! the script stays -/
def memA (a : Ac) : Sg := match a with
  | .inl (_, _, _, σ) => σ
  | .inr (.inl (_, σ)) => σ
  | .inr (.inr (_, _, _, _, _, σ)) => σ
theorem up_12 {σ : Sg} {g j k : Nat} {z : Int} (h : inR g j = true) : up σ g j k z 12 = σ 12 := by
  funext j' k'
  simp only [up]
  rw [if_neg (fun e => rl_12 h e.1.symm)]
set_option maxHeartbeats 4000000 in
set_option maxRecDepth 100000 in
theorem stp_12 {y pc : Nat} {ls : Lo} {st : List Va} {σ : Sg} {a : Ac} (h : stp y pc ls st σ = some a) : memA a 12 = σ 12 := by
  unfold stp at h
  cases hd : decode (mB y) pc with
  | error w => rw [hd] at h; cases h
  | ok w =>
  obtain ⟨i, len⟩ := w
  rw [hd] at h
  dsimp only at h
  by_cases ho : okl i len = true
  case neg => rw [if_neg ho] at h; cases h
  rw [if_pos ho] at h
  clear ho hd
  cases i
  case putfield k =>
    dsimp only [stpI] at h
    split at h
    next =>
      split at h
      next h1 =>
        cases h
        exact up_12 h1.2.1
      next => cases h
    next => cases h
  case iastore =>
    dsimp only [stpI] at h
    split at h
    next =>
      split at h
      next h1 =>
        cases h
        exact up_12 h1.2.1
      next => cases h
    next => cases h
  case lastore =>
    dsimp only [stpI] at h
    split at h
    next =>
      split at h
      next h1 =>
        cases h
        exact up_12 h1.2.1
      next => cases h
    next => cases h
  case bastore =>
    dsimp only [stpI] at h
    split at h
    next =>
      split at h
      next h1 =>
        cases h
        exact up_12 h1.2.1
      next => cases h
    next => cases h
  case ifCond =>
    dsimp only [stpI] at h
    split at h
    next =>
      obtain ⟨t, -, ⟨-, rfl⟩ | ⟨-, rfl⟩⟩ := brn_inv h <;> rfl
    next => cases h
  case if_icmp =>
    dsimp only [stpI] at h
    split at h
    next =>
      obtain ⟨t, -, ⟨-, rfl⟩ | ⟨-, rfl⟩⟩ := brn_inv h <;> rfl
    next => cases h
  all_goals first
    | exact nomatch (show (none : Option Ac) = some _ from h)
    | (dsimp only [stpI, ldi, lda, ldl, sti, sta, stl, go, fin, cal] at h; (repeat' (split at h)); all_goals first | (cases h; rfl) | cases h)
theorem ex_12 : ∀ (n d y pc : Nat) (ls : Lo) (st : List Va) (σ : Sg) (x : Rs × Sg), ex n d y pc ls st σ = some x → x.2 12 = σ 12 := by
  intro n
  induction n with
  | zero => intro d y pc ls st σ x h; cases h
  | succ n ih =>
    intro d y pc ls st σ x h
    rw [ex_s] at h
    cases hs : stp y pc ls st σ with
    | none => rw [hs] at h; cases h
    | some a =>
      rw [hs] at h
      have h0 := stp_12 hs
      rcases a with ⟨pc', ls', st', σ'⟩ | r | ⟨y', as, pc', ls', st', σ'⟩
      · exact (ih _ _ _ _ _ _ _ h).trans h0
      · cases h
        exact h0
      · cases d with
        | zero => cases h
        | succ d' =>
          dsimp only at h
          cases hc : ex n d' y' 0 (ini y' as) [] σ' with
          | none => rw [hc] at h; cases h
          | some q =>
            have h1 := ih _ _ _ _ _ _ _ hc
            rw [hc] at h
            rcases q with ⟨v | q, σ2⟩
            · exact (ih _ _ _ _ _ _ _ h).trans (h1.trans h0)
            · dsimp only at h
              cases hh : hnd y pc q with
              | none =>
                rw [hh] at h
                cases h
                exact h1.trans h0
              | some w =>
                rw [hh] at h
                cases h
                refine Eq.trans ?_ (h1.trans h0)
                funext j k
                simp [up]
section SF
variable {p : Program} {l : Launch} {e : Env} {R : Room} {s : State} {m : MethodId} {args : Array Value} {below : List Frame} {meth : Method} {c : Code} {H : Heap} {locs : List Loc} {cells slots : Nat} {Q : State → Prop} {E : En} {d y pc pc' : Nat} {σ σ' : Sg} {la : Array Slot} {rest : List Value} {ls ls' : Lo} {st st' : List Va}
theorem lv_ini : ∀ (as : List Va) (n i : Nat), nlg as = true → lv_args i (as.map (enc E)) = (prs (as.map some ++ List.replicate n none) i).map (fun q => (q.1, enc E q.2))
  | [], n, i, _ => by
    show [] = _
    rw [List.map_nil, List.nil_append, prs_none]
    rfl
  | v :: t, n, i, h => by
    have h1 : isLn v = false ∧ nlg t = true := by simpa [nlg] using h
    have hcat : (enc E v).category ≠ 2 := fun q => by rw [enc_cat q] at h1; cases h1.1
    show (i, enc E v) :: lv_args (if (enc E v).category = 2 then i + 2 else i + 1) (t.map (enc E)) = (i, enc E v) :: (prs (t.map some ++ List.replicate n none) (i + 1)).map _
    rw [if_neg hcat, lv_ini t n (i + 1) h1.2]
theorem lg_len : ∀ (as : List Va), nlg as = true → (lg_sl (as.map (enc E))).length = as.length
  | [], _ => rfl
  | v :: t, h => by
    have h1 : isLn v = false ∧ nlg t = true := by simpa [nlg] using h
    have hcat : (enc E v).category ≠ 2 := fun q => by rw [enc_cat q] at h1; cases h1.1
    have := lg_len t h1.2
    simp only [lg_sl, List.map_cons, List.flatMap_cons, if_neg hcat, List.length_append, List.length_cons, List.length_nil] at this ⊢
    omega
/-- how the run of y ends at the machine, when it has come to its return -/
def Rtn (p : Program) (l : Launch) (e : Env) (R : Room) (s : State) (m : MethodId) (args : Array Value) (below : List Frame) (meth : Method) (c : Code) (cells slots : Nat) (Q : State → Prop) (E : En) (y : Nat) (r : Option Va) (σ' : Sg) : Prop :=
  ∀ (pc : Nat) (H : Heap) (locs : List Loc) (la : Array Slot), In E σ' s H locs → ((∃ z : Int, r = some (vi z) ∧ decode (mB y) pc = .ok (.ireturn, 1) ∧ (mR y = some .int ∨ (mR y = some .boolean ∧ (z = 0 ∨ z = 1)))) ∨ (r = none ∧ decode (mB y) pc = .ok (.return_, 1) ∧ mR y = none)) → W p l e R s m args below meth c H locs cells slots Q (F0 m pc la (r.toList.map (enc E)))
theorem rtn_met (hx : p.tables.exec = Jvm.exec) (hb : c.code = mB y) (hr : meth.sig.returnType = mR y) (hlk : meth.locks = false) (r : Option Va) : Rtn p l e R s m args below meth c 0 0 (MQ below (Qx E r σ') args s 0 0 (Ag E)) E y r σ' := by
  intro pc H locs la I h
  obtain ⟨p1, p2, p3, p4⟩ := I
  rcases h with ⟨z, rfl, hd, ht⟩ | ⟨rfl, hd, ht⟩
  · rcases ht with ht | ⟨ht, hz⟩
    · exact W.iret hx hb (hr.trans ht) (fun t ht hW => ⟨⟨rfl, by rw [St, ht]; exact ⟨p1, p2⟩⟩, p3.F ht⟩) p3.2.2 hd
    · exact W.zret hx hb (hr.trans ht) (by rcases hz with rfl | rfl <;> rfl) (fun t ht hW => ⟨⟨rfl, by rw [St, ht]; exact ⟨p1, p2⟩⟩, p3.F ht⟩) p3.2.2 hd
  · exact W.vret hx hb (hr.trans ht) (fun t ht hW => ⟨⟨rfl, by rw [St, ht]; exact ⟨p1, p2⟩⟩, p3.F ht⟩) p3.2.2 hd
end SF
