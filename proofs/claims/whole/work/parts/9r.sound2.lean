section MZ
variable {p : Program} {l : Launch} {e : Env} {R : Room} {s : State} {m : MethodId} {args : Array Value} {below : List Frame} {meth : Method} {c : Code} {H : Heap} {locs : List Loc} {cells slots : Nat} {Q : State → Prop} {E : En} {d o pc pc' len : Nat} {la : Array Slot} {rest : List Value} {ls ls' : Lo} {st st' : List Va} {M M' : Me} {i : Instr}
theorem sz_wr (c : Ce) (k : Nat) (v : V2) : sz2 (wr c k v) = sz2 c := rfl
theorem s2_le (h : s2 o pc i len ls st M = some (.inl (pc', ls', st', M'))) : M.length ≤ M'.length ∧ ss M ≤ ss M' := by
  unfold s2 at h
  repeat' split at h
  all_goals first
    | (cases h; done)
    | (cases h; exact ⟨Nat.le_refl _, Nat.le_refl _⟩)
    | (cases h; rw [List.length_append, ss_app]; exact ⟨Nat.le_add_right _ _, Nat.le_add_right _ _⟩)
    | (cases h; rw [List.length_set, ss_set (by assumption) (sz_wr _ _ _)]; exact ⟨Nat.le_refl _, Nat.le_refl _⟩)
theorem isRef_ok {t : FieldType} {v : Nat} (h : t.isReference = true) : narrow t (.ref v) = .ref v ∧ fits t (.ref v) = true := by
  cases t <;> first | exact ⟨rfl, rfl⟩ | cases h
theorem kob_ok {o i k : Nat} (h : kob o i = some k) : Cond.methodLink (cN o) i Lib.objectInit ∈ WA := kob_all _ (kob_mem h)
theorem knw_ok {o i k : Nat} (h : knw o i = some k) : k < 8 ∧ Cond.classLink (cN o) i (cN k) ∈ WA := knw_all _ (knw_mem h)
theorem kin_ok {o i k : Nat} (h : kin o i = some k) : k < 8 ∧ Cond.methodLinkNest (cN o) i (kY k) "FiguredBass" ∈ NI := kin_all _ (kin_mem h)
set_option maxHeartbeats 4000000 in
theorem x_go (hE : ∀ k, eA E 20 k = eZ E + k) (C : C2 p R s m args meth c E d o) (I : I2 E M s H locs) (L : Lc E (kLo o) ls la) (hz : s.heap.size + cells = eZ E + M.length) (hi : kI2 o pc = some (i, len)) (h : s2 o pc i len ls st M = some (.inl (pc', ls', st', M'))) (q1 : cells + (M'.length - M.length) ≤ R.cells) (q2 : slots + (ss M' - ss M) ≤ R.slots)
    (kk : ∀ (H' : Heap) (locs' : List Loc) (la' : Array Slot), I2 E M' s H' locs' → Lc E (kLo o) ls' la' → W p l e R s m args below meth c H' locs' (cells + (M'.length - M.length)) (slots + (ss M' - ss M)) Q (F0 m pc' la' (st'.map (enc E)))) : W p l e R s m args below meth c H locs cells slots Q (F0 m pc la (st.map (enc E))) := by
  have C0 := C
  obtain ⟨hx, hb, hml, hr, hlk, hown, hts, hK, hR1, hR2, hnm, ho⟩ := C0
  have hd := kI2_ok ho hi
  have er : ∀ k, enc E (vr 20 k) = .ref (eZ E + k) := fun k => congrArg Value.ref (hE k)
  have k0 : ∀ {M1 : Me}, M1 = M → M' = M1 → (∀ (la' : Array Slot), Lc E (kLo o) ls' la' → W p l e R s m args below meth c H locs cells slots Q (F0 m pc' la' (st'.map (enc E)))) := by
    rintro _ rfl rfl la' L'
    have := kk H locs la' I L'
    rw [Nat.sub_self, Nat.sub_self] at this
    exact this
  cases i
  case aload_n k =>
    dsimp only [s2] at h
    split at h
    next q hq =>
      split at h
      next hl =>
        subst hl
        cases h
        exact lv_aload_n hx hb hd rfl (L.at hq) (k0 rfl rfl la L)
      next => cases h
    next => cases h
  case iload_n k =>
    dsimp only [s2] at h
    split at h
    next q hq =>
      split at h
      next hl =>
        subst hl
        cases h
        exact lv_iload_n hx hb hd rfl (L.at hq) (k0 rfl rfl la L)
      next => cases h
    next => cases h
  case iconst z =>
    dsimp only [s2] at h
    split at h
    next hl =>
      subst hl
      cases h
      exact lv_iconst hx hb hd rfl (k0 rfl rfl la L)
    next => cases h
  case bipush z =>
    dsimp only [s2] at h
    split at h
    next hl =>
      obtain ⟨rfl, h1, h2⟩ := hl
      cases h
      exact lv_bipush hx hb hd (bip_ok h1 h2) (k0 rfl rfl la L)
    next => cases h
  case sipush z =>
    dsimp only [s2] at h
    split at h
    next hl =>
      obtain ⟨rfl, h1, h2⟩ := hl
      cases h
      exact lv_sipush hx hb hd (sip_ok h1 h2) (k0 rfl rfl la L)
    next => cases h
  case dup =>
    dsimp only [s2] at h
    split at h
    next q st2 =>
      split at h
      next hl =>
        subst hl
        cases h
        exact lv_dup hx hb hd rfl (k0 rfl rfl la L)
      next => cases h
    next => cases h
  case istore_n k =>
    dsimp only [s2] at h
    split at h
    next z st2 =>
      split at h
      next hl =>
        obtain ⟨rfl, hn⟩ := hl
        cases h
        exact lv_istore_n hx hb hd rfl L.2 hn rfl (fun la2 h2 => k0 rfl rfl la2 (L.set h2))
      next => cases h
    next => cases h
  case iinc k w =>
    dsimp only [s2] at h
    split at h
    next z hz2 =>
      split at h
      next hl =>
        obtain ⟨rfl, hn⟩ := hl
        cases h
        obtain ⟨a, ha⟩ := List.getElem?_of_mem (List.mem_map.mpr ⟨(0 + k, vi z), lget_mem ls k 0 hz2, rfl⟩ : ((0 + k, enc E (vi z)) : Nat × Value) ∈ (prs ls 0).map fun q => (q.1, enc E q.2))
        rw [Nat.zero_add] at ha
        exact lv_iinc hx hb hd L.2 ha (v := i3 (z + w)) (i3_add z w) hn rfl (fun la2 h2 => k0 rfl rfl la2 (L.set (v := vi (z + w)) h2))
      next => cases h
    next => cases h
  case if_icmp cnd off =>
    cases cnd <;> dsimp only [s2] at h <;> first | (cases h; done) | skip
    split at h
    next b a st2 =>
      split at h
      next hl =>
        obtain ⟨rfl, hn⟩ := hl
        refine lv_icmp_ge hx hb hd (tgt := ((pc : Int) + off).toNat) (by omega) (fun hc => ?_) (fun hc => ?_)
        · rw [if_pos hc] at h
          cases h
          exact k0 rfl rfl la L
        · rw [if_neg hc] at h
          cases h
          exact k0 rfl rfl la L
      next => cases h
    next => cases h
  case goto off =>
    dsimp only [s2] at h
    split at h
    next hl =>
      obtain ⟨rfl, hn⟩ := hl
      cases h
      exact lv_goto hx hb hd (by omega) (k0 rfl rfl la L)
    next => cases h
  case newarray t =>
    dsimp only [s2] at h
    split at h
    next z st2 w ht =>
      split at h
      next hl =>
        obtain ⟨rfl, h0, h1⟩ := hl
        cases h
        have e1 : (M ++ [(w, z.toNat, [])]).length - M.length = 1 := by rw [List.length_append]; simp
        have e2 : ss (M ++ [(w, z.toNat, [])]) - ss M = z.toNat := by
          rw [ss_app]
          have : ¬ w = 5 := by cases t <;> first | (cases ht; done) | (cases ht; decide)
          simp [ss, sz2, this]
        rw [e1] at q1
        rw [e2] at q2
        refine x_newa hx hb hts hK I ht h0 h1 q1 q2 hd (fun H' I' => ?_)
        have := kk H' locs la I' L
        rw [e1, e2, List.map_cons, er] at this
        exact this
      next => cases h
    next => cases h
  case anewarray k =>
    dsimp only [s2] at h
    split at h
    next z st2 =>
      split at h
      next hl =>
        obtain ⟨rfl, rfl, rfl, h0, h1⟩ := hl
        cases h
        have e1 : (M ++ [(2, z.toNat, [])]).length - M.length = 1 := by rw [List.length_append]; simp
        have e2 : ss (M ++ [(2, z.toNat, [])]) - ss M = z.toNat := by
          rw [ss_app]
          simp [ss, sz2]
        rw [e1] at q1
        rw [e2] at q2
        refine x_anew hx hb hown hts hK I h0 h1 q1 q2 hd (fun H' I' => ?_)
        have := kk H' locs la I' L
        rw [e1, e2, List.map_cons, er] at this
        exact this
      next => cases h
    next => cases h
  case multianewarray k n =>
    dsimp only [s2] at h
    split at h
    next b a st2 =>
      split at h
      next hl =>
        obtain ⟨rfl, rfl, rfl, rfl, h0, h1⟩ := hl
        cases h
        have e1 : (M ++ rows2 a.toNat b.toNat M.length).length - M.length = 1 + a.toNat := by rw [List.length_append, (ss_rows _ _ _).2]; omega
        have e2 : ss (M ++ rows2 a.toNat b.toNat M.length) - ss M = a.toNat + a.toNat * b.toNat := by
          rw [ss_app, (ss_rows _ _ _).1]
          omega
        rw [e1] at q1
        rw [e2] at q2
        refine x_mna hx hb hown hts hK I h0 h1 q1 q2 hd (fun H' I' => ?_)
        have := kk H' locs la I' L
        rw [e1, e2, List.map_cons, er] at this
        exact this
      next => cases h
    next => cases h
  case new k =>
    dsimp only [s2] at h
    split at h
    next w hw =>
      split at h
      next hl =>
        subst hl
        cases h
        obtain ⟨w1, w2⟩ := knw_ok hw
        have e1 : (M ++ [(5, w, [])]).length - M.length = 1 := by rw [List.length_append]; simp
        have e2 : ss (M ++ [(5, w, [])]) - ss M = cn w := by
          rw [ss_app]
          simp [ss, sz2]
        rw [e1] at q1
        rw [e2] at q2
        refine x_new hx hb hown hts hK I w1 w2 q1 q2 hd (fun H' I' => ?_)
        have := kk H' locs la I' L
        rw [e1, e2, List.map_cons, er] at this
        exact this
      next => cases h
    next => cases h
  case putfield k =>
    dsimp only [s2] at h
    split at h
    next z q st2 f hf =>
      split at h
      next x hM =>
        split at h
        next hl =>
          obtain ⟨rfl, h20, h5, hc, ht, hfi⟩ := hl
          cases h
          have e1 : (M.set q.2 (wr x f (some (.inl z)))).length - M.length = 0 := by rw [List.length_set]; omega
          have e2 : ss (M.set q.2 (wr x f (some (.inl z)))) - ss M = 0 := by rw [ss_set hM (sz_wr _ _ _)]; omega
          obtain ⟨g, j⟩ := q
          dsimp only at h20 hM kk e1 e2
          subst h20
          show W p l e R s m args below meth c H locs cells slots Q (F0 m pc la (en2 E (some (.inl z)) :: enc E (vr 20 j) :: st'.map (enc E)))
          rw [er]
          refine x_put C I hz hf hM h5 hc (by rw [ht]; exact ⟨rfl, rfl⟩) hd (fun H' locs' I' => ?_)
          have := kk H' locs' la I' L
          rw [e1, e2] at this
          exact this
        next => cases h
      next => cases h
    next v q st2 f hf =>
      split at h
      next x hM =>
        split at h
        next hl =>
          obtain ⟨rfl, h21, h20, h5, hc, ht, hfi⟩ := hl
          cases h
          have e1 : (M.set q.2 (wr x f (some (.inr v.2)))).length - M.length = 0 := by rw [List.length_set]; omega
          have e2 : ss (M.set q.2 (wr x f (some (.inr v.2)))) - ss M = 0 := by rw [ss_set hM (sz_wr _ _ _)]; omega
          obtain ⟨g, j⟩ := q
          obtain ⟨g2, j2⟩ := v
          dsimp only at h20 h21 hM kk e1 e2
          subst h20
          subst h21
          show W p l e R s m args below meth c H locs cells slots Q (F0 m pc la (enc E (vr 20 j2) :: enc E (vr 20 j) :: st'.map (enc E)))
          rw [er, er]
          refine x_put (v := some (.inr j2)) C I hz hf hM h5 hc (isRef_ok ht) hd (fun H' locs' I' => ?_)
          have := kk H' locs' la I' L
          rw [e1, e2] at this
          exact this
        next => cases h
      next => cases h
    next => cases h
  case getfield k =>
    dsimp only [s2] at h
    split at h
    next q st2 f hf =>
      split at h
      next x hM =>
        split at h
        next v hv =>
          split at h
          next hl =>
            obtain ⟨rfl, h20, h5, hc⟩ := hl
            cases h
            obtain ⟨g, j⟩ := q
            dsimp only at h20 hM
            subst h20
            show W p l e R s m args below meth c H locs cells slots Q (F0 m pc la (enc E (vr 20 j) :: st2.map (enc E)))
            rw [er]
            refine x_get C I hf hM h5 hc hv hd ?_
            have := k0 rfl rfl la L
            rw [List.map_cons, er] at this
            exact this
          next => cases h
        next => cases h
      next => cases h
    next => cases h
  case iastore =>
    dsimp only [s2] at h
    split at h
    next v z q st2 =>
      split at h
      next x hM =>
        split at h
        next hl =>
          obtain ⟨rfl, h20, h5, z0, z1, z2⟩ := hl
          cases h
          have e1 : (M.set q.2 (wr x z.toNat (some (.inl v)))).length - M.length = 0 := by rw [List.length_set]; omega
          have e2 : ss (M.set q.2 (wr x z.toNat (some (.inl v)))) - ss M = 0 := by rw [ss_set hM (sz_wr _ _ _)]; omega
          obtain ⟨g, j⟩ := q
          dsimp only at h20 hM kk e1 e2
          subst h20
          show W p l e R s m args below meth c H locs cells slots Q (F0 m pc la (.int (i3 v) :: .int (i3 z) :: enc E (vr 20 j) :: st'.map (enc E)))
          rw [er]
          refine x_iast C I hz hM h5 z0 z1 z2 hd (fun H' locs' I' => ?_)
          have := kk H' locs' la I' L
          rw [e1, e2] at this
          exact this
        next => cases h
      next => cases h
    next => cases h
  case aastore =>
    dsimp only [s2] at h
    split at h
    next v z q st2 =>
      split at h
      next x w hM hV =>
        split at h
        next hl =>
          obtain ⟨rfl, h20, h21, h5, h6, h7, z0, z1, z2⟩ := hl
          cases h
          have e1 : (M.set q.2 (wr x z.toNat (some (.inr v.2)))).length - M.length = 0 := by rw [List.length_set]; omega
          have e2 : ss (M.set q.2 (wr x z.toNat (some (.inr v.2)))) - ss M = 0 := by rw [ss_set hM (sz_wr _ _ _)]; omega
          obtain ⟨g, j⟩ := q
          obtain ⟨g2, j2⟩ := v
          dsimp only at h20 h21 hM hV kk e1 e2
          subst h20
          subst h21
          show W p l e R s m args below meth c H locs cells slots Q (F0 m pc la (enc E (vr 20 j2) :: .int (i3 z) :: enc E (vr 20 j) :: st'.map (enc E)))
          rw [er, er]
          refine x_aast C I hz hM hV h5 h6 h7 z0 z1 z2 hd (fun H' locs' I' => ?_)
          have := kk H' locs' la I' L
          rw [e1, e2] at this
          exact this
        next => cases h
      next => cases h
    next => cases h
  case invokespecial k =>
    dsimp only [s2] at h
    split at h
    next q st2 =>
      split at h
      next hl =>
        obtain ⟨rfl, hst⟩ := hl
        split at h
        next w hw =>
          cases h
          have hcat := cat_le (E := E) st'
          exact W.objInit hx hb hown (hts _ (kob_ok hw)) (hts _ ki_0) (hts _ ki_1) rfl (by rw [hml]; exact L.2.1) rfl hd (by omega) (by show 2 * 0 + _ + 12 ≤ R.locals; omega) (k0 rfl rfl la L)
        next =>
          split at h
          next =>
            split at h
            next => cases h
            next => cases h
          next => cases h
      next => cases h
    next => cases h
  case return_ =>
    dsimp only [s2] at h
    split at h
    next =>
      split at h
      next => cases h
      next => cases h
    next => cases h
  all_goals exact nomatch (show (none : Option A2) = some _ from h)
end MZ
