/-! EXCEPTIONS: where the class throws; the words that a throw needs, at every state behind the law's start -/
/-- the classes of the exceptions -/
def xN (k : Nat) : String := match k with
  | 1 => "java/lang/IllegalArgumentException"
  | 2 => "java/lang/IllegalStateException"
  | _ => "java/lang/IndexOutOfBoundsException"
def xU : List String := ["java/lang/RuntimeException", "java/lang/Exception"]
def xI (k : Nat) : Nat := match k with
  | 1 => 45
  | 2 => 103
  | _ => 119
def xC (k : Nat) : Nat := match k with
  | 1 => 41
  | 2 => 99
  | _ => 115
/-- the places: method, pc, which exception, where its text stands, the text -/
def xT : List (Nat × Nat × Nat × Nat × String) := [(0, 12, 1, 43, "fifths are -7 to 7"), (1, 11, 1, 59, "1 to 8 chords count"), (2, 29, 1, 65, "no such note"), (2, 76, 1, 77, "a bass sounds at 36 to 60"), (3, 27, 1, 83, "no such figure"), (3, 65, 2, 101, "the chord can't have this figure"), (4, 21, 2, 110, "the chord has no bass"), (4, 43, 3, 117, "no such tone"), (6, 44, 3, 142, "no such placement"), (10, 23, 1, 166, "sounds are 0 to 127"), (12, 15, 3, 177, "no such fault"), (12, 34, 1, 179, "0 to 2 can be asked of a fault"), (13, 9, 1, 184, "no such chord"), (14, 9, 1, 186, "no such voice"), (15, 12, 2, 192, "the chord is not whole"), (17, 10, 2, 197, "nothing is laid out")]
def xtP (q : Nat × Nat × Nat × Nat × String) : Prop := (mO q.1 = 0 ∧ (q.2.2.1 = 1 ∨ q.2.2.1 = 2 ∨ q.2.2.1 = 3)) ∧ decode (mB q.1) q.2.1 = .ok (.new (xC q.2.2.1), 3) ∧ decode (mB q.1) (q.2.1 + 3) = .ok (.dup, 1) ∧ decode (mB q.1) (q.2.1 + 4) = .ok (.ldc q.2.2.2.1, 2) ∧ decode (mB q.1) (q.2.1 + 6) = .ok (.invokespecial (xI q.2.2.1), 3) ∧ decode (mB q.1) (q.2.1 + 9) = .ok (.athrow, 1)
theorem xT_ok : ∀ q ∈ xT, xtP q := List.forall_mem_cons.mpr ⟨⟨by decide, by decide +kernel, by decide +kernel, by decide +kernel, by decide +kernel, by decide +kernel⟩, List.forall_mem_cons.mpr ⟨⟨by decide, by decide +kernel, by decide +kernel, by decide +kernel, by decide +kernel, by decide +kernel⟩, List.forall_mem_cons.mpr ⟨⟨by decide, by decide +kernel, by decide +kernel, by decide +kernel, by decide +kernel, by decide +kernel⟩, List.forall_mem_cons.mpr ⟨⟨by decide, by decide +kernel, by decide +kernel, by decide +kernel, by decide +kernel, by decide +kernel⟩, List.forall_mem_cons.mpr ⟨⟨by decide, by decide +kernel, by decide +kernel, by decide +kernel, by decide +kernel, by decide +kernel⟩, List.forall_mem_cons.mpr ⟨⟨by decide, by decide +kernel, by decide +kernel, by decide +kernel, by decide +kernel, by decide +kernel⟩, List.forall_mem_cons.mpr ⟨⟨by decide, by decide +kernel, by decide +kernel, by decide +kernel, by decide +kernel, by decide +kernel⟩, List.forall_mem_cons.mpr ⟨⟨by decide, by decide +kernel, by decide +kernel, by decide +kernel, by decide +kernel, by decide +kernel⟩, List.forall_mem_cons.mpr ⟨⟨by decide, by decide +kernel, by decide +kernel, by decide +kernel, by decide +kernel, by decide +kernel⟩, List.forall_mem_cons.mpr ⟨⟨by decide, by decide +kernel, by decide +kernel, by decide +kernel, by decide +kernel, by decide +kernel⟩, List.forall_mem_cons.mpr ⟨⟨by decide, by decide +kernel, by decide +kernel, by decide +kernel, by decide +kernel, by decide +kernel⟩, List.forall_mem_cons.mpr ⟨⟨by decide, by decide +kernel, by decide +kernel, by decide +kernel, by decide +kernel, by decide +kernel⟩, List.forall_mem_cons.mpr ⟨⟨by decide, by decide +kernel, by decide +kernel, by decide +kernel, by decide +kernel, by decide +kernel⟩, List.forall_mem_cons.mpr ⟨⟨by decide, by decide +kernel, by decide +kernel, by decide +kernel, by decide +kernel, by decide +kernel⟩, List.forall_mem_cons.mpr ⟨⟨by decide, by decide +kernel, by decide +kernel, by decide +kernel, by decide +kernel, by decide +kernel⟩, List.forall_mem_cons.mpr ⟨⟨by decide, by decide +kernel, by decide +kernel, by decide +kernel, by decide +kernel, by decide +kernel⟩, fun _ h => absurd h List.not_mem_nil⟩⟩⟩⟩⟩⟩⟩⟩⟩⟩⟩⟩⟩⟩⟩⟩
theorem th_mem {o i w : Nat} (h : th o i = some w) : (o, i, w) ∈ thT := by
  unfold th at h
  cases hf : thT.find? (fun q => q.1 == o && q.2.1 == i) with
  | none => rw [hf] at h; cases h
  | some q =>
    rw [hf] at h
    obtain ⟨a, b, v⟩ := q
    have h1 := List.find?_some hf
    have h2 := List.mem_of_find?_eq_some hf
    simp only [Bool.and_eq_true, beq_iff_eq] at h1
    cases h
    rw [← h1.1, ← h1.2]
    exact h2
theorem th_x {y pc k : Nat} (h : th y pc = some k) : ∃ (i : Nat) (t : String), (y, pc, k, i, t) ∈ xT := by
  have h1 := th_mem h
  have e : thT = xT.map (fun q => (q.1, q.2.1, q.2.2.1)) := rfl
  rw [e] at h1
  obtain ⟨⟨a, b, c, i, t⟩, hq, he⟩ := List.mem_map.mp h1
  cases he
  exact ⟨i, t, hq⟩
def xA (k : Nat) : List Cond := Bundle.ownAtoms "FiguredBass" (xI k) (xN k) xU
def xW : List Cond := xA 1 ++ (xA 2 ++ xA 3)
theorem xA_W {k : Nat} (h : k = 1 ∨ k = 2 ∨ k = 3) {w : Cond} (hw : w ∈ xA k) : w ∈ xW := by
  rcases h with rfl | rfl | rfl
  · exact List.mem_append_left _ hw
  · exact List.mem_append_right _ (List.mem_append_left _ hw)
  · exact List.mem_append_right _ (List.mem_append_right _ hw)
theorem xW_face : ∀ w ∈ xW, w.keepsFace = true := fun w hw => by
  rcases List.mem_append.mp hw with h | h
  · exact Bundle.ownAtoms_keepsFace w h
  · rcases List.mem_append.mp h with h | h
    · exact Bundle.ownAtoms_keepsFace w h
    · exact Bundle.ownAtoms_keepsFace w h
theorem xW_kinds : ∀ w ∈ xW, w.onTables = true ∨ w = .isRef (.static Bundle.tN "UNASSIGNED_STACK" Bundle.steD) ∨ w = .isRef (.static Bundle.tN "SUPPRESSED_SENTINEL" Bundle.listD) ∨ w = .laysStatic Bundle.tN "UNASSIGNED_STACK" Bundle.steD ∨ w = .laysStatic Bundle.tN "SUPPRESSED_SENTINEL" Bundle.listD := by
  have h : xW.all (fun w => w.onTables || (decide (w = .isRef (.static Bundle.tN "UNASSIGNED_STACK" Bundle.steD)) || (decide (w = .isRef (.static Bundle.tN "SUPPRESSED_SENTINEL" Bundle.listD)) || (decide (w = .laysStatic Bundle.tN "UNASSIGNED_STACK" Bundle.steD) || decide (w = .laysStatic Bundle.tN "SUPPRESSED_SENTINEL" Bundle.listD))))) = true := by decide +kernel
  intro w hw
  have := List.all_eq_true.mp h w hw
  simpa only [Bool.or_eq_true, decide_eq_true_eq] using this
theorem xW_has : (∀ w ∈ [Cond.isRef (.static Bundle.tN "UNASSIGNED_STACK" Bundle.steD), Cond.isRef (.static Bundle.tN "SUPPRESSED_SENTINEL" Bundle.listD), Cond.laysStatic Bundle.tN "UNASSIGNED_STACK" Bundle.steD, Cond.laysStatic Bundle.tN "SUPPRESSED_SENTINEL" Bundle.listD, Cond.initialized Bundle.tN], w ∈ xW) := by decide +kernel
/-- U stands behind a state in which all that the throws need holds, and nothing that was there has changed -/
def KX (E : En) (U : State) : Prop := ∃ s₀ : State, (∀ w ∈ xW, w.before #[] s₀ = true) ∧ (∀ q ∈ xT, (Cond.stringRef "FiguredBass" q.2.2.2.1 q.2.2.2.2).before #[] s₀ = true) ∧ (∀ j k, (j = 1 ∨ j = 2 ∨ j = 3) → (k = 1 ∨ k = 2 ∨ k = 3) → ¬ j = k → va_Nc (xN j) (xN k) s₀) ∧ s₀.WarmedH U.vm ∧ s₀.heap.size ≤ eZ E ∧ ∀ a, a < s₀.heap.size → U.heap[a]? = s₀.heap[a]?
section KXs
variable {E : En} {s U : State} {locs : List Loc} {args : Array Value}
theorem KX.move (h : KX E s) (hS : ∀ q : Nat, q < s.heap.size → ¬ Ag E q → U.heap[q]? = s.heap[q]?) (hW : s.WarmedH U.vm) : KX E U := by
  obtain ⟨s₀, h1, h2, h3, h4, h5, h6⟩ := h
  refine ⟨s₀, h1, h2, h3, State.WarmedH.trans h4 hW, h5, fun a ha => ?_⟩
  have e := h6 a ha
  have hlt : a < s.heap.size := by
    rw [Array.getElem?_eq_getElem ha] at e
    exact (Array.getElem?_eq_some_iff.mp e).1
  rw [hS a hlt (fun z => by have : eZ E ≤ a := z; omega)]
  exact e
theorem isRef_of {C n d : String} {A : Nat → Prop} (h : va_Zq C n d A s s.heap) : (Cond.isRef (.static C n d)).before args s = true := by
  have key : ∀ v : Value, v.isRef = true → va_Z C n d v A s s.heap → (Cond.isRef (.static C n d)).before args s = true := by
    intro v hv hz
    obtain ⟨cf, kf, fi, f, a, cell, h1, h2, h3, h4, h5, h6, h7, -⟩ := hz
    have he : (Term.static C n d).eval args s none [] s = some v := by
      simp [Term.eval, State.fieldNamed?, h1, h2, h4, h5, h6, h7]
    simp only [Cond.before, Cond.holds, Cond.value, he]
    cases v <;> simp_all [Value.isRef]
  rcases h with h | ⟨t, h⟩
  · exact key _ rfl h
  · exact key _ rfl h
theorem KX.word (h : KX E U) {w : Cond} (hw : w ∈ xW) : w.before args U = true := by
  obtain ⟨s₀, h1, h2, h3, h4, h5, h6⟩ := h
  have up : ∀ w ∈ xW, w.before #[] (s₀.setVm U.vm) = true := fun w hw => Cond.before_shiftedFace (State.Shifted.of_warmed h4) w (xW_face w hw) (h1 w hw)
  have st : ∀ C n d, (Cond.isRef (.static C n d)).before #[] (s₀.setVm U.vm) = true → (Cond.laysStatic C n d).before #[] (s₀.setVm U.vm) = true → (Cond.initialized C).before #[] (s₀.setVm U.vm) = true → (Cond.isRef (.static C n d)).before args U = true := by
    intro C n d q1 q2 q3
    have z := va_Zqof (A := fun _ => False) q2 q3 q1 (fun _ _ => id)
    have z2 : va_Zq C n d (fun _ => False) (s₀.setVm U.vm) U.heap := va_Zq.kept z (fun a ha _ => h6 a ha)
    exact isRef_of (va_Zq.moved (u := s₀.setVm U.vm) (U := U) (Vm.Alike.refl U.vm) z2)
  have ly : ∀ C n d, (Cond.laysStatic C n d).before #[] (s₀.setVm U.vm) = true → (Cond.laysStatic C n d).before args U = true := by
    intro C n d q
    obtain ⟨c, k, i, f, a, cell, y1, y2, y3, y4, y5, y6, y7, y8, y9⟩ := Cond.laysStatic_spec q
    have y5' : s₀.heap[a]? = some cell := y5
    exact Cond.laysStatic_of (args := args) (first := U) (s := U) (o := none) (idx := []) y1 y2 y3 y4 ((h6 a (Array.getElem?_eq_some_iff.mp y5').1).trans y5') y6 y7 y8 y9
  rcases xW_kinds w hw with e | e | e | e | e
  · exact va_tabs e (u := s₀.setVm U.vm) (U := U) rfl (up w hw)
  · subst e
    exact st _ _ _ (up _ (xW_has _ (by simp))) (up _ (xW_has _ (by simp))) (up _ (xW_has _ (by simp)))
  · subst e
    exact st _ _ _ (up _ (xW_has _ (by simp))) (up _ (xW_has _ (by simp))) (up _ (xW_has _ (by simp)))
  · subst e
    exact ly _ _ _ (up _ hw)
  · subst e
    exact ly _ _ _ (up _ hw)
theorem KX.text (h : KX E U) {q : Nat × Nat × Nat × Nat × String} (hq : q ∈ xT) {cur : Nat} (hc : U.vm.findClass "FiguredBass" = some cur) : ∃ a : Nat, (Cond.stringRef "FiguredBass" q.2.2.2.1 q.2.2.2.2).before args U = true ∧ (Term.string "FiguredBass" q.2.2.2.1).eval args U none [] U = some (.ref a) := by
  obtain ⟨s₀, h1, h2, h3, h4, h5, h6⟩ := h
  have q1 : (Cond.stringRef "FiguredBass" q.2.2.2.1 q.2.2.2.2).before #[] (s₀.setVm U.vm) = true := Cond.stringRef_warmed h4 (h2 q hq)
  obtain ⟨k, cf, i, a, -, -, -, -, -, q2⟩ := Cond.stringRef_spec (s := s₀.setVm U.vm) hc q1
  obtain ⟨q3, q4⟩ := vk_R.same (u := s₀.setVm U.vm) (U := U) rfl (vk_R.of q1 q2)
  exact ⟨a, q3, q4⟩
theorem KX.no (h : KX E U) {j k : Nat} (hj : j = 1 ∨ j = 2 ∨ j = 3) (hk : k = 1 ∨ k = 2 ∨ k = 3) (hn : ¬ j = k) : va_Nc (xN j) (xN k) U := by
  obtain ⟨s₀, h1, h2, h3, h4, h5, h6⟩ := h
  exact va_Nc.moved h4.alike (h3 j k hj hk hn)
end KXs
theorem xF_ok {k : Nat} (h : k = 1 ∨ k = 2 ∨ k = 3) : Bundle.fit (xN k) = true := by
  rcases h with rfl | rfl | rfl <;> decide +kernel
theorem xL_in {k : Nat} (h : k = 1 ∨ k = 2 ∨ k = 3) : Cond.classLink "FiguredBass" (xC k) (xN k) ∈ WA ∧ Cond.initialized (xN k) ∈ WA := by
  rcases h with rfl | rfl | rfl
  · exact ⟨by decide +kernel, by decide +kernel⟩
  · exact ⟨by decide +kernel, by decide +kernel⟩
  · exact ⟨by decide +kernel, by decide +kernel⟩
theorem va_lt {D : va_G} {cl : List vw_C} {ws : va_W} {H : Heap} (h : va_P D cl ws H) {j : Nat} {q : Nat × va_E} (hj : ws[j]? = some q) : q.1 < H.size := by
  have := h j q hj
  obtain ⟨a, o | o⟩ := q
  · exact (Array.getElem?_eq_some_iff.mp (show H[a]? = some _ from this)).1
  · obtain ⟨r, -, cell, q1, -⟩ := this
    exact (Array.getElem?_eq_some_iff.mp q1).1
/-! A THROW is a run of the machine -/
/-- the end of a method that throws: the exception's cell is new -/
def QX (E : En) (k : Nat) (σ' : Sg) (mc ms : Nat) : Array Value → State → Outcome → State → Prop := fun _ st o t => ∃ (q : Addr) (ce : Cell) (L : List Loc), o = .threw q ∧ t.heap[q]? = some ce ∧ ce.vm = .none ∧ st.vm.findClass (xN k) = some ce.cls ∧ St E σ' t ∧ va_F (Ag E) st t ∧ st.WarmedH t.vm ∧ st.sameButNew ({ t with vm := st.vm } : State) L mc ms ∧ ∀ z ∈ L, Ag E z.base
def MQX (below : List Frame) (E : En) (k : Nat) (σ' : Sg) (mc ms : Nat) (a : Array Value) (s : State) : State → Prop := fun t => ∃ o, t.status = .running ∧ Ended t below o ∧ QX E k σ' mc ms a s o t
section TH
variable {p : Program} {l : Launch} {e : Env} {R : Room} {s : State} {m : MethodId} {args : Array Value} {below : List Frame} {meth : Method} {c : Code} {H : Heap} {locs : List Loc} {cells slots : Nat} {Q : State → Prop} {E : En} {d y pc pc' : Nat} {σ σ1 σ2 : Sg} {la : Array Slot} {rest : List Value} {ls ls' : Lo} {st st' as : List Va} {y' k : Nat} {v : Option Va}
/-- the method as if it were called anew, in the heap as it stands -/
theorem anew {T : State} (X : Stand p l e R s m args below meth c T locs cells slots) {R' : Room} (r1 : R'.frames ≤ R.frames) (r2 : R'.locals ≤ R.locals) (r3 : cells + R'.cells ≤ R.cells) (r4 : slots + R'.slots ≤ R.slots) : Stand p l e R' ((T.setVm s.vm).setFrames (.invoking m args :: below)) m args below meth c T [] 0 0 := by
  have htop : (T.setVm s.vm).topJava?.isSome := X.here.top
  have hF : ((T.setVm s.vm).setFrames (.invoking m args :: below)).frames = .invoking m args :: below := State.frames_setFrames _ (State.cur_lt_of_top htop)
  obtain ⟨g₀, hg⟩ := Option.isSome_iff_exists.mp htop
  obtain ⟨r, hr⟩ := State.topJava?_eq_some.mp hg
  obtain ⟨t, ht, -⟩ := State.frames_cons hr
  have hl : e.platform.stackLimits (T.setVm s.vm).me = e.platform.stackLimits s.me := X.limits
  have hb : (T.setVm s.vm).me.stackBytes = s.me.stackBytes := X.bytes
  have hU : ((T.setVm s.vm).setFrames (.invoking m args :: below)).localsInUse = s.localsInUse := by
    rw [State.localsInUse_invoking hF (meth := meth) (c := c) X.method X.code, State.localsInUse_invoking X.frames X.method X.code]
  have nil : T.heap.toList.drop T.heap.size = [] := List.drop_eq_nil_of_le (Nat.le_of_eq Array.length_toList)
  refine ⟨X.admits, X.cas, X.clock, hF, ?_, X.hears, X.method, X.code, X.here, X.tail, X.warmed, by rw [State.stackLimits_setFrames]; rfl, by rw [State.stackBytes_setFrames]; rfl, ⟨?_, Nat.le_refl _, Nat.le_refl _, ?_, ?_, fun a c9 h9 => ⟨c9, h9, rfl, rfl, fun _ _ => rfl⟩⟩⟩
  · have h := X.room
    have z1 := X.heapSize
    have z2 := X.used
    simp only [State.hasRoom, Bool.and_eq_true, decide_eq_true_eq] at h ⊢
    obtain ⟨⟨⟨⟨h1, h2, h3, h4, h5, h6⟩, h7⟩, h8⟩, h9⟩ := h
    rw [X.frames, List.length_cons] at h2 h3
    simp only [hF, hU, List.length_cons, State.stackLimits_setFrames, State.stackBytes_setFrames, hl, hb]
    exact ⟨⟨⟨⟨by omega, by omega, by omega, by omega, by omega, h6⟩, show T.heap.size + R'.cells ≤ e.platform.maxCells by omega⟩, show T.slotsUsed + R'.slots ≤ e.platform.maxSlots by omega⟩, X.book⟩
  · show T.setVm s.vm = { ((T.setVm s.vm).setFrames (.invoking m args :: below)).setFrames (T.setVm s.vm).frames with heap := T.heap, slotsUsed := T.slotsUsed }
    rw [State.setFrames_setFrames, State.setFrames_self ht]
    rfl
  · show T.slotsUsed = T.slotsUsed + ((T.heap.toList.drop T.heap.size).map (·.slots.size)).sum
    rw [nil]
    rfl
  · show ((T.heap.toList.drop T.heap.size).map (·.slots.size)).sum ≤ 0
    rw [nil]
    exact Nat.le_refl _
theorem kept_of {U : State} {mc ms : Nat} (h : s.sameButNew ({ U with vm := s.vm } : State) [] mc ms) : s.heap.size ≤ U.heap.size ∧ ∀ q : Nat, q < s.heap.size → U.heap[q]? = s.heap[q]? := by
  obtain ⟨-, h2, -, -, -, h6⟩ := h
  refine ⟨h2, fun q hq => ?_⟩
  obtain ⟨c9, e1, e2, e3, e4⟩ := h6 q _ (Array.getElem?_eq_getElem hq)
  have hs : c9.slots = (s.heap[q]).slots := Array.ext_getElem? fun i => e4 i (fun z => nomatch z)
  have h9 : c9 = s.heap[q] := by
    rw [hs] at e2
    exact e2
  have e5 : U.heap[q]? = some c9 := e1
  rw [e5, h9, Array.getElem?_eq_getElem hq]
theorem q_throw (hl : l.stackTraces = false) (C : Cx p R s m args meth c cells slots E d y) (hX : KX E s) (I : In E σ s H locs) (L : Lc E (mL y) ls la) (hth : th y pc = some k) (hnh : c.exceptionTable.toList = []) (r1 : 7 ≤ R.frames) (r2 : 100 ≤ R.locals) (r3 : cells + 1 ≤ R.cells) (r4 : slots + 6 ≤ R.slots) : W p l e R s m args below meth c H locs cells slots (MQX below E k σ (cells + 1) (slots + 6) args s) (F0 m pc la []) := by
  obtain ⟨hx, hb, hml, hr, hlk, hown, hts, hK, hR1, hR2, hc1, hc2⟩ := C
  obtain ⟨is, tx, hq⟩ := th_x hth
  obtain ⟨⟨o0, k3⟩, d0, d3, d4, d6, d9⟩ := xT_ok _ hq
  dsimp only at o0 k3 d0 d3 d4 d6 d9
  rw [o0] at hown
  have hown : s.vm.findClass "FiguredBass" = some m.cls := hown
  rw [← hb] at d0 d3 d4 d6 d9
  intro T hT X
  have htr : e.platform.stackTraces = false := (show e.platform.stackTraces = l.stackTraces by rw [X.admits.platform]).trans hl
  have Y := anew X (R' := { frames := R.frames, locals := R.locals, cells := 1, slots := 6 }) (Nat.le_refl _) (Nat.le_refl _) r3 r4
  obtain ⟨s', hA⟩ : ∃ z, z = (T.setVm s.vm).setFrames (.invoking m args :: below) := ⟨_, rfl⟩
  rw [← hA] at Y
  have hvm : s'.vm = s.vm := by rw [hA]; rfl
  have hhp : s'.heap = H := by rw [hA]; exact hT
  have hW0 : s.WarmedH s'.vm := by rw [hvm]; exact State.WarmedH.refl s
  have hX' : KX E s' := hX.move (fun q h1 h2 => by rw [hhp]; exact I.2.2.1.2.1 q h1 h2) hW0
  have hk : (Cond.classLink "FiguredBass" (xC k) (xN k)).before args s' = true := word_at hW0 (WA_good _ (xL_in k3).1) (hts _ (xL_in k3).1)
  have hini : (Cond.initialized (xN k)).before args s' = true := word_at hW0 (WA_good _ (xL_in k3).2) (hts _ (xL_in k3).2)
  have hat : ∀ w ∈ Bundle.ownAtoms "FiguredBass" (xI k) (xN k) xU, w.before args s' = true := fun w hw => hX'.word (xA_W k3 hw)
  have hown' : s'.vm.findClass "FiguredBass" = some m.cls := by rw [hvm]; exact hown
  obtain ⟨sa, t1, t2⟩ := hX'.text (args := args) hq hown'
  obtain ⟨vm₁, cX, kX, hfX, hkX, -, -, X₁, st1⟩ := Y.newCold hx (own := "FiguredBass") (C := xN k) (index := xC k) (n := 6) hown' hk (hat _ (by simp [Bundle.ownAtoms])) hini (g := F0 m pc la []) rfl d0 (Nat.le_refl _) (Nat.le_refl _)
  generalize hT1 : (T.setVm vm₁).pushCell { cls := cX, slots := kX.instanceTypes.map defaultValue, vm := .none } = T1 at X₁ st1
  have hcell : T1.heap[T.heap.size]? = some (freshCell cX kX) := by rw [← hT1]; exact State.heap_pushCell_size _ _
  have hcat : (Value.ref T.heap.size).category = 1 := rfl
  obtain ⟨U, hsteps, hrun, hend, hW, hsame, ce, hce, hO⟩ := X₁.ctorThrowS hx htr (own := "FiguredBass") (cls := xN k) (names := xU) (ic := xI k) hown' (xF_ok k3) (by decide +kernel) hat (fun x hx => nomatch hx) hfX hkX hcell (by rw [hhp, hT]; exact Nat.le_refl _) (msg := .ref sa) rfl
    (g := { method := m, pc := pc + 6, locals := la, stack := .ref sa :: .ref T.heap.size :: .ref T.heap.size :: [], locked := none }) rfl (L.2.1.trans hml.symm) rfl rfl (rest := []) rfl d6 d9 (by rw [hnh]; intro x hx; cases hx) (show 2 + 3 < R.frames by omega) (show 2 * 0 + ([Value.ref T.heap.size].map fun v => v.category).sum + (13 * (2 + 1) + 42) ≤ R.locals by simp only [List.map_cons, List.map_nil, List.sum_cons, List.sum_nil, hcat]; omega) hlk
  obtain ⟨f1, f2⟩ := kept_of hsame
  rw [hhp] at f1 f2
  have hWs : s.WarmedH U.vm := State.WarmedH.trans hW0 hW
  have hcl : s.vm.findClass (xN k) = some ce.cls := by
    have h9 := hO.cls
    rw [hvm] at h9
    exact h9
  have hall : s.sameButNew ({ U with vm := s.vm } : State) locs (cells + 1) (slots + 6) := by
    subst hA
    obtain ⟨e1, e2⟩ := hsame
    rw [State.setFrames_setFrames] at e1
    have h2 : (T.setVm s.vm).sameButNew ({ U with vm := s.vm } : State) [] (0 + 1) (0 + 6) := ⟨e1, e2⟩
    have h3 := X.same.trans h2
    rw [List.append_nil] at h3
    exact h3.mono (Nat.le_refl _) (Nat.le_refl _)
  have hP : va_P E.1 vwC (wl E σ) U.heap := I.1.kept (fun j q hj => f2 q.1 (va_lt I.1 hj))
  refine ⟨U, st1 _ ?_, .threw T.heap.size, hrun, hend, T.heap.size, ce, locs, rfl, hce, hO.vm, hcl, ⟨hP, I.2.1⟩, ⟨Nat.le_trans I.2.2.1.1 f1, fun q q1 q2 => (f2 q (Nat.lt_of_lt_of_le q1 I.2.2.1.1)).trans (I.2.2.1.2.1 q q1 q2)⟩, hWs, hall, I.2.2.1.2.2⟩
  show Steps p.tables e below (T1.setTop { method := m, pc := pc + 3, locals := la, stack := .ref T.heap.size :: [], locked := none }) _
  jvm_step X₁.here [X₁.here.top, hx, d3, Value.category]
  exact X₁.ldcString hx hown' t1 t2 (g := { method := m, pc := pc + 4, locals := la, stack := .ref T.heap.size :: .ref T.heap.size :: [], locked := none }) rfl d4 _ hsteps
end TH
