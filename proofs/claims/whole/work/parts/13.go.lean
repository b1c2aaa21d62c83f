section SG
variable {p : Program} {l : Launch} {e : Env} {R : Room} {s : State} {m : MethodId} {args : Array Value} {below : List Frame} {meth : Method} {c : Code} {H : Heap} {locs : List Loc} {cells slots : Nat} {Q : State → Prop} {E : En} {d y pc pc' : Nat} {σ σ' : Sg} {la : Array Slot} {rest : List Value} {ls ls' : Lo} {st st' : List Va}
theorem brn_inv {cn : Prop} [Decidable cn] {off : Int} {a : Ac} (h : brn cn pc off ls st σ = some a) : ∃ t : Nat, (pc : Int) + off = (t : Int) ∧ ((cn ∧ a = .inl (t, ls, st, σ)) ∨ (¬ cn ∧ a = .inl (pc + 3, ls, st, σ))) := by
  unfold brn at h
  by_cases h0 : 0 ≤ (pc : Int) + off
  · rw [if_pos h0] at h
    refine ⟨((pc : Int) + off).toNat, by omega, ?_⟩
    by_cases hc : cn
    · rw [if_pos hc] at h
      exact Or.inl ⟨hc, (Option.some.inj h).symm⟩
    · rw [if_neg hc] at h
      exact Or.inr ⟨hc, (Option.some.inj h).symm⟩
  · rw [if_neg h0] at h
    cases h
set_option maxHeartbeats 4000000 in
set_option maxRecDepth 100000 in
theorem q_go (C : Cx p R s m args meth c cells slots E d y) (I : In E σ s H locs) (L : Lc E (mL y) ls la) (h : stp y pc ls st σ = some (.inl (pc', ls', st', σ')))
    (kk : ∀ (H' : Heap) (locs' : List Loc) (la' : Array Slot), In E σ' s H' locs' → Lc E (mL y) ls' la' → W p l e R s m args below meth c H' locs' cells slots Q (F0 m pc' la' (st'.map (enc E)))) : W p l e R s m args below meth c H locs cells slots Q (F0 m pc la (st.map (enc E))) := by
  have C0 := C
  obtain ⟨hx, hb, hml, hr, hlk, hown, hts, hK, hR1, hR2, hc1, hc2⟩ := C0
  unfold stp at h
  cases hd : decode (mB y) pc with
  | error w => rw [hd] at h; cases h
  | ok w =>
  obtain ⟨i, len⟩ := w
  rw [hd] at h
  dsimp only at h
  by_cases ho : okl i len = true
  case neg => rw [if_neg ho] at h; cases h
  rw [if_pos ho] at h
  cases i
  case iconst n =>
    obtain rfl : len = 1 := by simpa [okl] using ho
    cases h
    exact lv_iconst hx hb hd rfl (kk H locs la I L)
  case bipush n =>
    obtain rfl : len = 2 := by simpa [okl] using ho
    dsimp only [stpI] at h
    split at h
    next hn =>
      cases h
      exact lv_bipush hx hb hd (bip_ok hn.1 hn.2) (kk H locs la I L)
    next => cases h
  case sipush n =>
    obtain rfl : len = 3 := by simpa [okl] using ho
    dsimp only [stpI] at h
    split at h
    next hn =>
      cases h
      exact lv_sipush hx hb hd (sip_ok hn.1 hn.2) (kk H locs la I L)
    next => cases h
  case ldc n =>
    obtain rfl : len = 2 := by simpa [okl] using ho
    dsimp only [stpI] at h
    split at h
    next z hz =>
      cases h
      exact lv_ldc hx hb hown (hts _ (kI_ok hz)) hd (kk H locs la I L)
    next => cases h
  case ldc2_w n =>
    obtain rfl : len = 3 := by simpa [okl] using ho
    dsimp only [stpI] at h
    split at h
    next z hz =>
      cases h
      exact lv_ldc2 hx hb hown (hts _ (kL_ok hz)) hd (kk H locs la I L)
    next => cases h
  case iload n =>
    obtain rfl : len = 2 := by simpa [okl] using ho
    dsimp only [stpI, ldi] at h
    split at h
    next z hz =>
      cases h
      exact lv_iload hx hb hd (L.at hz) (kk H locs la I L)
    next => cases h
  case iload_n n =>
    obtain rfl : len = 1 := by simpa [okl] using ho
    dsimp only [stpI, ldi] at h
    split at h
    next z hz =>
      cases h
      exact lv_iload_n hx hb hd rfl (L.at hz) (kk H locs la I L)
    next => cases h
  case aload n =>
    obtain rfl : len = 2 := by simpa [okl] using ho
    dsimp only [stpI, lda] at h
    split at h
    next z hz =>
      cases h
      exact lv_aload hx hb hd (L.at hz) (kk H locs la I L)
    next => cases h
  case aload_n n =>
    obtain rfl : len = 1 := by simpa [okl] using ho
    dsimp only [stpI, lda] at h
    split at h
    next z hz =>
      cases h
      exact lv_aload_n hx hb hd rfl (L.at hz) (kk H locs la I L)
    next => cases h
  case lload n =>
    obtain rfl : len = 2 := by simpa [okl] using ho
    dsimp only [stpI, ldl] at h
    split at h
    next z hz =>
      cases h
      exact lv_lload hx hb hd (L.at hz) (kk H locs la I L)
    next => cases h
  case lload_n n =>
    obtain rfl : len = 1 := by simpa [okl] using ho
    dsimp only [stpI, ldl] at h
    split at h
    next z hz =>
      cases h
      exact lv_lload_n hx hb hd rfl (L.at hz) (kk H locs la I L)
    next => cases h
  case istore n =>
    obtain rfl : len = 2 := by simpa [okl] using ho
    dsimp only [stpI, sti] at h
    split at h
    next z st2 =>
      split at h
      next hn =>
        cases h
        exact lv_istore hx hb hd L.2 hn rfl (fun la2 h2 => kk H locs la2 I (L.set h2))
      next => cases h
    next => cases h
  case istore_n n =>
    obtain rfl : len = 1 := by simpa [okl] using ho
    dsimp only [stpI, sti] at h
    split at h
    next z st2 =>
      split at h
      next hn =>
        cases h
        exact lv_istore_n hx hb hd rfl L.2 hn rfl (fun la2 h2 => kk H locs la2 I (L.set h2))
      next => cases h
    next => cases h
  case astore n =>
    obtain rfl : len = 2 := by simpa [okl] using ho
    dsimp only [stpI, sta] at h
    split at h
    next z st2 =>
      split at h
      next hn =>
        cases h
        exact lv_astore hx hb hd L.2 hn rfl (fun la2 h2 => kk H locs la2 I (L.set h2))
      next => cases h
    next => cases h
  case astore_n n =>
    obtain rfl : len = 1 := by simpa [okl] using ho
    dsimp only [stpI, sta] at h
    split at h
    next z st2 =>
      split at h
      next hn =>
        cases h
        exact lv_astore_n hx hb hd rfl L.2 hn rfl (fun la2 h2 => kk H locs la2 I (L.set h2))
      next => cases h
    next => cases h
  case lstore n =>
    obtain rfl : len = 2 := by simpa [okl] using ho
    dsimp only [stpI, stl] at h
    split at h
    next z st2 =>
      split at h
      next hn =>
        cases h
        exact lv_lstore hx hb hd L.2 hn rfl (fun la2 h2 => kk H locs la2 I (L.setL h2))
      next => cases h
    next => cases h
  case lstore_n n =>
    obtain rfl : len = 1 := by simpa [okl] using ho
    dsimp only [stpI, stl] at h
    split at h
    next z st2 =>
      split at h
      next hn =>
        cases h
        exact lv_lstore_n hx hb hd rfl L.2 hn rfl (fun la2 h2 => kk H locs la2 I (L.setL h2))
      next => cases h
    next => cases h
  case iinc n w =>
    obtain rfl : len = 3 := by simpa [okl] using ho
    dsimp only [stpI] at h
    split at h
    next z hz =>
      split at h
      next hn =>
        cases h
        obtain ⟨a, ha⟩ := List.getElem?_of_mem (List.mem_map.mpr ⟨(0 + n, vi z), lget_mem ls n 0 hz, rfl⟩ : ((0 + n, enc E (vi z)) : Nat × Value) ∈ (prs ls 0).map fun q => (q.1, enc E q.2))
        rw [Nat.zero_add] at ha
        exact lv_iinc hx hb hd L.2 ha (v := i3 (z + w)) (i3_add z w) hn rfl (fun la2 h2 => kk H locs la2 I (L.set (v := vi (z + w)) h2))
      next => cases h
    next => cases h
  case iadd =>
    obtain rfl : len = 1 := by simpa [okl] using ho
    dsimp only [stpI] at h
    split at h
    next b a st2 =>
      cases h
      refine lv_iadd hx hb hd ?_
      rw [i3_add]
      exact kk H locs la I L
    next => cases h
  case isub =>
    obtain rfl : len = 1 := by simpa [okl] using ho
    dsimp only [stpI] at h
    split at h
    next b a st2 =>
      cases h
      refine lv_isub hx hb hd ?_
      rw [i3_sub]
      exact kk H locs la I L
    next => cases h
  case imul =>
    obtain rfl : len = 1 := by simpa [okl] using ho
    dsimp only [stpI] at h
    split at h
    next b a st2 =>
      cases h
      refine lv_imul hx hb hd ?_
      rw [i3_mul]
      exact kk H locs la I L
    next => cases h
  case iand =>
    obtain rfl : len = 1 := by simpa [okl] using ho
    dsimp only [stpI] at h
    split at h
    next b a st2 =>
      cases h
      refine lv_iand hx hb hd ?_
      rw [← i3_of (i3 a &&& i3 b)]
      exact kk H locs la I L
    next => cases h
  case ior =>
    obtain rfl : len = 1 := by simpa [okl] using ho
    dsimp only [stpI] at h
    split at h
    next b a st2 =>
      cases h
      refine lv_ior hx hb hd ?_
      rw [← i3_of (i3 a ||| i3 b)]
      exact kk H locs la I L
    next => cases h
  case ixor =>
    obtain rfl : len = 1 := by simpa [okl] using ho
    dsimp only [stpI] at h
    split at h
    next b a st2 =>
      cases h
      refine lv_ixor hx hb hd ?_
      rw [← i3_of (i3 a ^^^ i3 b)]
      exact kk H locs la I L
    next => cases h
  case ishl =>
    obtain rfl : len = 1 := by simpa [okl] using ho
    dsimp only [stpI] at h
    split at h
    next b a st2 =>
      cases h
      refine lv_ishl hx hb hd ?_
      rw [← i3_of (i3 a <<< (i3 b &&& 31))]
      exact kk H locs la I L
    next => cases h
  case ineg =>
    obtain rfl : len = 1 := by simpa [okl] using ho
    dsimp only [stpI] at h
    split at h
    next a st2 =>
      cases h
      refine lv_ineg hx hb hd ?_
      rw [i3_neg]
      exact kk H locs la I L
    next => cases h
  case idiv =>
    obtain rfl : len = 1 := by simpa [okl] using ho
    dsimp only [stpI] at h
    split at h
    next b a st2 =>
      split at h
      next hn =>
        cases h
        refine lv_idiv hx hb hd (i3_ne0 hn.2.1 hn.2.2) ?_
        rw [i3_div (rng_iff.mp hn.1) hn.2.1 hn.2.2]
        exact kk H locs la I L
      next => cases h
    next => cases h
  case irem =>
    obtain rfl : len = 1 := by simpa [okl] using ho
    dsimp only [stpI] at h
    split at h
    next b a st2 =>
      split at h
      next hn =>
        cases h
        refine lv_irem hx hb hd (i3_ne0 hn.2.1 hn.2.2) ?_
        rw [i3_rem (rng_iff.mp hn.1) hn.2.1 hn.2.2]
        exact kk H locs la I L
      next => cases h
    next => cases h
  case i2l =>
    obtain rfl : len = 1 := by simpa [okl] using ho
    dsimp only [stpI] at h
    split at h
    next a st2 =>
      split at h
      next hn =>
        cases h
        exact lv_i2l hx hb hd (i3_i6 (rng_iff.mp hn)) (kk H locs la I L)
      next => cases h
    next => cases h
  case l2i =>
    obtain rfl : len = 1 := by simpa [okl] using ho
    dsimp only [stpI] at h
    split at h
    next a st2 =>
      cases h
      exact lv_l2i hx hb hd (i6_i3 a) (kk H locs la I L)
    next => cases h
  case ladd =>
    obtain rfl : len = 1 := by simpa [okl] using ho
    dsimp only [stpI] at h
    split at h
    next b a st2 =>
      cases h
      refine lv_ladd hx hb hd ?_
      rw [i6_add]
      exact kk H locs la I L
    next => cases h
  case lmul =>
    obtain rfl : len = 1 := by simpa [okl] using ho
    dsimp only [stpI] at h
    split at h
    next b a st2 =>
      cases h
      refine lv_lmul hx hb hd ?_
      rw [i6_mul]
      exact kk H locs la I L
    next => cases h
  case lcmp =>
    obtain rfl : len = 1 := by simpa [okl] using ho
    dsimp only [stpI] at h
    split at h
    next b a st2 =>
      cases h
      refine W.lcmp hx hb hd ?_
      rw [← i3_of (lg_cmp (i6 a) (i6 b))]
      exact kk H locs la I L
    next => cases h
  case dup =>
    obtain rfl : len = 1 := by simpa [okl] using ho
    dsimp only [stpI] at h
    split at h
    next a st2 =>
      cases h
      exact lv_dup hx hb hd rfl (kk H locs la I L)
    next q st2 =>
      cases h
      exact lv_dup hx hb hd rfl (kk H locs la I L)
    next => cases h
  case dup2 =>
    obtain rfl : len = 1 := by simpa [okl] using ho
    dsimp only [stpI] at h
    split at h
    next b q st2 =>
      cases h
      exact lv_dup2_11 hx hb hd rfl rfl (kk H locs la I L)
    next => cases h
  case dup_x1 =>
    obtain rfl : len = 1 := by simpa [okl] using ho
    dsimp only [stpI] at h
    split at h
    next b q st2 =>
      cases h
      exact lv_dup_x1 hx hb hd rfl rfl (kk H locs la I L)
    next => cases h
  case dup_x2 =>
    obtain rfl : len = 1 := by simpa [okl] using ho
    dsimp only [stpI] at h
    split at h
    next b a q st2 =>
      cases h
      exact lv_dup_x2 hx hb hd rfl rfl rfl (kk H locs la I L)
    next => cases h
  case pop =>
    obtain rfl : len = 1 := by simpa [okl] using ho
    dsimp only [stpI] at h
    split at h
    next b st2 =>
      cases h
      exact lv_pop hx hb hd rfl (kk H locs la I L)
    next => cases h
  case ifCond cn off =>
    obtain rfl : len = 3 := by simpa [okl] using ho
    dsimp only [stpI] at h
    split at h
    next a st2 =>
      obtain ⟨t, ht, hh⟩ := brn_inv h
      cases cn
      case eq =>
        refine lv_if_eq hx hb hd ht (fun hc => ?_) (fun hc => ?_)
        · rcases hh with ⟨h1, h2⟩ | ⟨h1, h2⟩
          · cases h2
            exact kk H locs la I L
          · exact absurd (decide_eq_true hc) h1
        · rcases hh with ⟨h1, h2⟩ | ⟨h1, h2⟩
          · exact absurd (of_decide_eq_true h1) hc
          · cases h2
            exact kk H locs la I L
      case ne =>
        refine lv_if_ne hx hb hd ht (fun hc => ?_) (fun hc => ?_)
        · rcases hh with ⟨h1, h2⟩ | ⟨h1, h2⟩
          · cases h2
            exact kk H locs la I L
          · exact absurd (decide_eq_true hc) h1
        · rcases hh with ⟨h1, h2⟩ | ⟨h1, h2⟩
          · exact absurd (of_decide_eq_true h1) (fun q => q hc)
          · cases h2
            exact kk H locs la I L
      case lt =>
        refine lv_if_lt hx hb hd ht (fun hc => ?_) (fun hc => ?_)
        · rcases hh with ⟨h1, h2⟩ | ⟨h1, h2⟩
          · cases h2
            exact kk H locs la I L
          · exact absurd (decide_eq_true hc) h1
        · rcases hh with ⟨h1, h2⟩ | ⟨h1, h2⟩
          · exact absurd (of_decide_eq_true h1) hc
          · cases h2
            exact kk H locs la I L
      case ge =>
        refine lv_if_ge hx hb hd ht (fun hc => ?_) (fun hc => ?_)
        · rcases hh with ⟨h1, h2⟩ | ⟨h1, h2⟩
          · cases h2
            exact kk H locs la I L
          · exact absurd (decide_eq_true hc) h1
        · rcases hh with ⟨h1, h2⟩ | ⟨h1, h2⟩
          · exact absurd (of_decide_eq_true h1) hc
          · cases h2
            exact kk H locs la I L
      case gt =>
        refine lv_if_gt hx hb hd ht (fun hc => ?_) (fun hc => ?_)
        · rcases hh with ⟨h1, h2⟩ | ⟨h1, h2⟩
          · cases h2
            exact kk H locs la I L
          · exact absurd (decide_eq_true hc) h1
        · rcases hh with ⟨h1, h2⟩ | ⟨h1, h2⟩
          · exact absurd (of_decide_eq_true h1) hc
          · cases h2
            exact kk H locs la I L
      case le =>
        refine lv_if_le hx hb hd ht (fun hc => ?_) (fun hc => ?_)
        · rcases hh with ⟨h1, h2⟩ | ⟨h1, h2⟩
          · cases h2
            exact kk H locs la I L
          · exact absurd (decide_eq_true hc) h1
        · rcases hh with ⟨h1, h2⟩ | ⟨h1, h2⟩
          · exact absurd (of_decide_eq_true h1) hc
          · cases h2
            exact kk H locs la I L
    next => cases h
  case if_icmp cn off =>
    obtain rfl : len = 3 := by simpa [okl] using ho
    dsimp only [stpI] at h
    split at h
    next b a st2 =>
      obtain ⟨t, ht, hh⟩ := brn_inv h
      cases cn
      case eq =>
        refine lv_icmp_eq hx hb hd ht (fun hc => ?_) (fun hc => ?_)
        · rcases hh with ⟨h1, h2⟩ | ⟨h1, h2⟩
          · cases h2
            exact kk H locs la I L
          · exact absurd (decide_eq_true hc) h1
        · rcases hh with ⟨h1, h2⟩ | ⟨h1, h2⟩
          · exact absurd (of_decide_eq_true h1) hc
          · cases h2
            exact kk H locs la I L
      case ne =>
        refine lv_icmp_ne hx hb hd ht (fun hc => ?_) (fun hc => ?_)
        · rcases hh with ⟨h1, h2⟩ | ⟨h1, h2⟩
          · cases h2
            exact kk H locs la I L
          · exact absurd (decide_eq_true hc) h1
        · rcases hh with ⟨h1, h2⟩ | ⟨h1, h2⟩
          · exact absurd (of_decide_eq_true h1) (fun q => q hc)
          · cases h2
            exact kk H locs la I L
      case lt =>
        refine lv_icmp_lt hx hb hd ht (fun hc => ?_) (fun hc => ?_)
        · rcases hh with ⟨h1, h2⟩ | ⟨h1, h2⟩
          · cases h2
            exact kk H locs la I L
          · exact absurd (decide_eq_true hc) h1
        · rcases hh with ⟨h1, h2⟩ | ⟨h1, h2⟩
          · exact absurd (of_decide_eq_true h1) hc
          · cases h2
            exact kk H locs la I L
      case ge =>
        refine lv_icmp_ge hx hb hd ht (fun hc => ?_) (fun hc => ?_)
        · rcases hh with ⟨h1, h2⟩ | ⟨h1, h2⟩
          · cases h2
            exact kk H locs la I L
          · exact absurd (decide_eq_true hc) h1
        · rcases hh with ⟨h1, h2⟩ | ⟨h1, h2⟩
          · exact absurd (of_decide_eq_true h1) hc
          · cases h2
            exact kk H locs la I L
      case gt =>
        refine lv_icmp_gt hx hb hd ht (fun hc => ?_) (fun hc => ?_)
        · rcases hh with ⟨h1, h2⟩ | ⟨h1, h2⟩
          · cases h2
            exact kk H locs la I L
          · exact absurd (decide_eq_true hc) h1
        · rcases hh with ⟨h1, h2⟩ | ⟨h1, h2⟩
          · exact absurd (of_decide_eq_true h1) hc
          · cases h2
            exact kk H locs la I L
      case le =>
        refine lv_icmp_le hx hb hd ht (fun hc => ?_) (fun hc => ?_)
        · rcases hh with ⟨h1, h2⟩ | ⟨h1, h2⟩
          · cases h2
            exact kk H locs la I L
          · exact absurd (decide_eq_true hc) h1
        · rcases hh with ⟨h1, h2⟩ | ⟨h1, h2⟩
          · exact absurd (of_decide_eq_true h1) hc
          · cases h2
            exact kk H locs la I L
    next => cases h
  case goto off =>
    obtain rfl : len = 3 := by simpa [okl] using ho
    dsimp only [stpI] at h
    split at h
    next hn =>
      cases h
      exact lv_goto hx hb hd (by omega) (kk H locs la I L)
    next => cases h
  case tableswitch dd lo hi offs =>
    dsimp only [stpI] at h
    split at h
    next a st2 =>
      split at h
      next h1 =>
        split at h
        next h2 =>
          cases h
          exact lv_tableOut hx hb hd h1 (by omega) (kk H locs la I L)
        next => cases h
      next h1 =>
        split at h
        next o h3 =>
          split at h
          next h2 =>
            cases h
            exact lv_tableIn hx hb hd (fun q => h1 (Or.inl q)) (fun q => h1 (Or.inr q)) h3 (by omega) (kk H locs la I L)
          next => cases h
        next => cases h
    next => cases h
  case lookupswitch dd ps =>
    dsimp only [stpI] at h
    split at h
    next a st2 =>
      split at h
      next h1 =>
        cases h
        exact lv_lookup hx hb hd h1.1 rfl (by omega) (kk H locs la I L)
      next => cases h
    next => cases h
  case getfield k =>
    obtain rfl : len = 3 := by simpa [okl] using ho
    dsimp only [stpI] at h
    split at h
    next q st2 w hw =>
      split at h
      next h1 =>
        cases h
        exact q_getf C I hw h1.1 h1.2.1 h1.2.2 hd (kk H locs la I L)
      next => cases h
    next => cases h
  case putfield k =>
    obtain rfl : len = 3 := by simpa [okl] using ho
    dsimp only [stpI] at h
    split at h
    next z q st2 w hw =>
      split at h
      next h1 =>
        cases h
        exact q_putf C I hw h1.1 h1.2.1 h1.2.2.1 h1.2.2.2.1 h1.2.2.2.2.1 h1.2.2.2.2.2 hd (fun H2 locs2 I2 => kk H2 locs2 la I2 L)
      next => cases h
    next => cases h
  case getstatic k =>
    obtain rfl : len = 3 := by simpa [okl] using ho
    dsimp only [stpI] at h
    split at h
    next j hj =>
      cases h
      exact q_gets C I hj hd (kk H locs la I L)
    next => cases h
  case iaload =>
    obtain rfl : len = 1 := by simpa [okl] using ho
    dsimp only [stpI] at h
    split at h
    next z q st2 =>
      split at h
      next x hxx =>
        cases h
        exact q_iald C I hxx hd (kk H locs la I L)
      next => cases h
    next => cases h
  case iastore =>
    obtain rfl : len = 1 := by simpa [okl] using ho
    dsimp only [stpI] at h
    split at h
    next x z q st2 =>
      split at h
      next h1 =>
        cases h
        exact q_iast C I h1.1 h1.2.1 h1.2.2.1 h1.2.2.2 hd (fun H2 locs2 I2 => kk H2 locs2 la I2 L)
      next => cases h
    next => cases h
  case baload =>
    obtain rfl : len = 1 := by simpa [okl] using ho
    dsimp only [stpI] at h
    split at h
    next z q st2 =>
      split at h
      next h1 =>
        cases h
        exact q_zald C I h1.1 h1.2.1 h1.2.2.1 h1.2.2.2 hd (kk H locs la I L)
      next => cases h
    next => cases h
  case bastore =>
    obtain rfl : len = 1 := by simpa [okl] using ho
    dsimp only [stpI] at h
    split at h
    next x z q st2 =>
      split at h
      next h1 =>
        cases h
        exact q_zast C I h1.1 h1.2.1 h1.2.2.1 h1.2.2.2.1 h1.2.2.2.2 hd (fun H2 locs2 I2 => kk H2 locs2 la I2 L)
      next => cases h
    next => cases h
  case aaload =>
    obtain rfl : len = 1 := by simpa [okl] using ho
    dsimp only [stpI] at h
    split at h
    next z q st2 =>
      split at h
      next w hw =>
        split at h
        next h1 =>
          cases h
          exact q_aald C I h1.1 h1.2.1 h1.2.2.1 h1.2.2.2 hw hd (kk H locs la I L)
        next => cases h
      next => cases h
    next => cases h
  case lastore =>
    obtain rfl : len = 1 := by simpa [okl] using ho
    dsimp only [stpI] at h
    split at h
    next x z q st2 =>
      split at h
      next h1 =>
        cases h
        exact q_last C I h1.1 h1.2.1 h1.2.2.1 h1.2.2.2 hd (fun H2 locs2 I2 => kk H2 locs2 la I2 L)
      next => cases h
    next => cases h
  case laload =>
    obtain rfl : len = 1 := by simpa [okl] using ho
    dsimp only [stpI] at h
    split at h
    next z q st2 =>
      split at h
      next h1 =>
        cases h
        exact q_lald C I h1.1 h1.2.1 h1.2.2.1 h1.2.2.2 hd (kk H locs la I L)
      next => cases h
    next => cases h
  case arraylength =>
    obtain rfl : len = 1 := by simpa [okl] using ho
    dsimp only [stpI] at h
    split at h
    next q st2 =>
      split at h
      next x hxx =>
        cases h
        exact q_alen C I hxx hd (kk H locs la I L)
      next => cases h
    next => cases h
  case invokevirtual k =>
    obtain rfl : len = 3 := by simpa [okl] using ho
    dsimp only [stpI] at h
    split at h
    next => split at h
            · split at h
              · cases h
              · cases h
            · cases h
    next => cases h
  case invokestatic k =>
    obtain rfl : len = 3 := by simpa [okl] using ho
    dsimp only [stpI] at h
    split at h
    next y2 hy2 =>
      split at h
      next h0 =>
        split at h
        next b a st2 =>
          split at h
          next h1 =>
            cases h
            exact q_max C L (by rw [hy2, h0]) h1 hd (kk H locs la I L)
          next => cases h
        next => cases h
      next h0 =>
        split at h
        next h0 =>
          split at h
          next b a st2 =>
            split at h
            next h1 =>
              cases h
              exact q_min C L (by rw [hy2, h0]) h1 hd (kk H locs la I L)
            next => cases h
          next => cases h
        next h0 =>
          split at h
          next h0 =>
            split at h
            next a st2 =>
              split at h
              next h1 =>
                cases h
                exact q_abs C L (by rw [hy2, h0]) h1 hd (kk H locs la I L)
              next => cases h
            next => cases h
          next h0 =>
            split at h
            · cases h
            · cases h
    next =>
      split at h
      · split at h
        · split at h
          · cases h
          · cases h
        · cases h
      · cases h
  case new k =>
    obtain rfl : len = 3 := by simpa [okl] using ho
    dsimp only [stpI] at h
    split at h
    · split at h
      · cases h
      · cases h
    · cases h
  case ireturn =>
    obtain rfl : len = 1 := by simpa [okl] using ho
    dsimp only [stpI] at h
    split at h
    next => split at h
            · cases h
            · cases h
    next => cases h
  case return_ =>
    obtain rfl : len = 1 := by simpa [okl] using ho
    dsimp only [stpI] at h
    split at h
    next => split at h
            · cases h
            · cases h
    next => cases h
  all_goals exact nomatch (show (none : Option Ac) = some _ from h)
end SG
