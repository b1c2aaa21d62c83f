/-! THE RULES BY INSTRUCTION -/
def isO (g j ci : Nat) : Prop := rt g j = 5 ∧ inR g j = true ∧ rc g j = ci
def isA (g j t : Nat) (z : Int) : Prop := rt g j = t ∧ inR g j = true ∧ 0 ≤ z ∧ z < rn g j
/-- a local that holds a number, a reference, a long -/
def Li (x : Option Va) (f : Int → Prop) : Prop := match x with
  | some (.inl z) => f z
  | _ => False
def Lr (x : Option Va) (f : Nat × Nat → Prop) : Prop := match x with
  | some (.inr (.inl q)) => f q
  | _ => False
def Ll (x : Option Va) (f : Int → Prop) : Prop := match x with
  | some (.inr (.inr z)) => f z
  | _ => False
def On {α : Type} (x : Option α) (f : α → Prop) : Prop := match x with
  | some z => f z
  | none => False
theorem Li_s {z : Int} {f : Int → Prop} : Li (some (vi z)) f ↔ f z := Iff.rfl
theorem Lr_s {g j : Nat} {f : Nat × Nat → Prop} : Lr (some (vr g j)) f ↔ f (g, j) := Iff.rfl
theorem Ll_s {z : Int} {f : Int → Prop} : Ll (some (vl z)) f ↔ f z := Iff.rfl
theorem On_s {α : Type} {z : α} {f : α → Prop} : On (some z) f ↔ f z := Iff.rfl
/-- behind a call -/
def Kc (d y pc : Nat) (ls : Lo) (st : List Va) (Q : Rs → Sg → Prop) : Rs → Sg → Prop := fun r σ2 => match r with
  | .inl v => Wx d y pc ls (v.toList ++ st) σ2 Q
  | .inr q => (match hnd y (pc - 3) q with
    | some r => Q (.inl (some (vi r))) (up σ2 15 0 0 (σ2 15 0 0 + 1))
    | none => Q (.inr q) σ2)
section UR
variable {d y pc t : Nat} {ls : Lo} {st : List Va} {σ σ' : Sg} {Q : Rs → Sg → Prop} {a b x z : Int} {g j k n : Nat} {i : Instr} {len : Nat}
theorem Kc_i {v : Va} : Kc d y pc ls st Q (.inl (some v)) σ ↔ Wx d y pc ls (v :: st) σ Q := Iff.rfl
theorem Kc_v : Kc d y pc ls st Q (.inl none) σ ↔ Wx d y pc ls st σ Q := Iff.rfl
theorem Kc_x {q : Nat} (h : y < 130) : Kc d y pc ls st Q (.inr q) σ ↔ Q (.inr q) σ := by
  show (match hnd y (pc - 3) q with
    | some r => Q (.inl (some (vi r))) (up σ 15 0 0 (σ 15 0 0 + 1))
    | none => Q (.inr q) σ) ↔ _
  rw [hnd_lt h]
/-- a helper's catch -/
theorem Kc_h {q r : Nat} (h : hnd y (pc - 3) q = some r) : Kc d y pc ls st Q (.inr q) σ ↔ Q (.inl (some (vi r))) (up σ 15 0 0 (σ 15 0 0 + 1)) := by
  show (match hnd y (pc - 3) q with
    | some r => Q (.inl (some (vi r))) (up σ 15 0 0 (σ 15 0 0 + 1))
    | none => Q (.inr q) σ) ↔ _
  rw [h]
theorem s_eq (hd : decode (mB y) pc = .ok (i, len)) (ho : okl i len = true) : stp y pc ls st σ = stpI y pc len i ls st σ := by
  unfold stp
  rw [hd]
  exact if_pos ho
theorem g_ite {c : Prop} [Decidable c] {st : List Va} {pc' : Nat} {ls' : Lo} {st' : List Va} (hs : stp y pc ls st σ = if c then go pc' ls' st' σ' else none) : Wx d y pc ls st σ Q ↔ c ∧ Wx d y pc' ls' st' σ' Q := by
  by_cases h : c
  · rw [if_pos h] at hs
    exact (Wx_go hs).trans ⟨fun w => ⟨h, w⟩, And.right⟩
  · rw [if_neg h] at hs
    exact (Wx_none hs).trans ⟨False.elim, fun w => h w.1⟩
theorem g_brn {c : Prop} [Decidable c] {off : Int} {st st' : List Va} (hs : stp y pc ls st σ = brn c pc off ls st' σ) (ht : (pc : Int) + off = (t : Int)) : Wx d y pc ls st σ Q ↔ if c then Wx d y t ls st' σ Q else Wx d y (pc + 3) ls st' σ Q := by
  unfold brn at hs
  rw [if_pos (by omega), show ((pc : Int) + off).toNat = t by omega] at hs
  by_cases h : c
  · rw [if_pos h] at hs
    rw [if_pos h]
    exact Wx_go hs
  · rw [if_neg h] at hs
    rw [if_neg h]
    exact Wx_go hs
theorem u_iconst {n : Int} (hd : decode (mB y) pc = .ok (.iconst n, 1)) : Wx d y pc ls st σ Q ↔ Wx d y (pc + 1) ls (vi n :: st) σ Q := Wx_go (s_eq hd rfl)
theorem u_bipush {n : Int} (hd : decode (mB y) pc = .ok (.bipush n, 2)) (hn : -128 ≤ n ∧ n ≤ 127) : Wx d y pc ls st σ Q ↔ Wx d y (pc + 2) ls (vi n :: st) σ Q := Wx_go ((s_eq hd rfl).trans (if_pos hn))
theorem u_sipush {n : Int} (hd : decode (mB y) pc = .ok (.sipush n, 3)) (hn : -32768 ≤ n ∧ n ≤ 32767) : Wx d y pc ls st σ Q ↔ Wx d y (pc + 3) ls (vi n :: st) σ Q := Wx_go ((s_eq hd rfl).trans (if_pos hn))
theorem u_ldc (hd : decode (mB y) pc = .ok (.ldc k, 2)) (hk : kI (mO y) k = some z) : Wx d y pc ls st σ Q ↔ Wx d y (pc + 2) ls (vi z :: st) σ Q := Wx_go ((s_eq hd rfl).trans (by dsimp only [stpI]; rw [hk]; rfl))
theorem u_ldc2 (hd : decode (mB y) pc = .ok (.ldc2_w k, 3)) (hk : kL (mO y) k = some z) : Wx d y pc ls st σ Q ↔ Wx d y (pc + 3) ls (vl z :: st) σ Q := Wx_go ((s_eq hd rfl).trans (by dsimp only [stpI]; rw [hk]; rfl))
theorem u_iload (hd : decode (mB y) pc = .ok (.iload k, 2)) : Wx d y pc ls st σ Q ↔ Li (lget ls k) (fun z => Wx d y (pc + 2) ls (vi z :: st) σ Q) := by
  have hs : stp y pc ls st σ = ldi ls k (pc + 2) st σ := s_eq hd rfl
  unfold ldi at hs
  unfold Li
  rcases hl : lget ls k with _ | (z | q | z) <;> rw [hl] at hs <;> first | exact Wx_go hs | exact Wx_none hs
theorem u_iload_n {k : Fin 4} (hd : decode (mB y) pc = .ok (.iload_n k, 1)) : Wx d y pc ls st σ Q ↔ Li (lget ls k.val) (fun z => Wx d y (pc + 1) ls (vi z :: st) σ Q) := by
  have hs : stp y pc ls st σ = ldi ls k.val (pc + 1) st σ := s_eq hd rfl
  unfold ldi at hs
  unfold Li
  rcases hl : lget ls k.val with _ | (z | q | z) <;> rw [hl] at hs <;> first | exact Wx_go hs | exact Wx_none hs
theorem u_aload (hd : decode (mB y) pc = .ok (.aload k, 2)) : Wx d y pc ls st σ Q ↔ Lr (lget ls k) (fun z => Wx d y (pc + 2) ls (.inr (.inl z) :: st) σ Q) := by
  have hs : stp y pc ls st σ = lda ls k (pc + 2) st σ := s_eq hd rfl
  unfold lda at hs
  unfold Lr
  rcases hl : lget ls k with _ | (z | q | z) <;> rw [hl] at hs <;> first | exact Wx_go hs | exact Wx_none hs
theorem u_aload_n {k : Fin 4} (hd : decode (mB y) pc = .ok (.aload_n k, 1)) : Wx d y pc ls st σ Q ↔ Lr (lget ls k.val) (fun z => Wx d y (pc + 1) ls (.inr (.inl z) :: st) σ Q) := by
  have hs : stp y pc ls st σ = lda ls k.val (pc + 1) st σ := s_eq hd rfl
  unfold lda at hs
  unfold Lr
  rcases hl : lget ls k.val with _ | (z | q | z) <;> rw [hl] at hs <;> first | exact Wx_go hs | exact Wx_none hs
theorem u_lload (hd : decode (mB y) pc = .ok (.lload k, 2)) : Wx d y pc ls st σ Q ↔ Ll (lget ls k) (fun z => Wx d y (pc + 2) ls (vl z :: st) σ Q) := by
  have hs : stp y pc ls st σ = ldl ls k (pc + 2) st σ := s_eq hd rfl
  unfold ldl at hs
  unfold Ll
  rcases hl : lget ls k with _ | (z | q | z) <;> rw [hl] at hs <;> first | exact Wx_go hs | exact Wx_none hs
theorem u_lload_n {k : Fin 4} (hd : decode (mB y) pc = .ok (.lload_n k, 1)) : Wx d y pc ls st σ Q ↔ Ll (lget ls k.val) (fun z => Wx d y (pc + 1) ls (vl z :: st) σ Q) := by
  have hs : stp y pc ls st σ = ldl ls k.val (pc + 1) st σ := s_eq hd rfl
  unfold ldl at hs
  unfold Ll
  rcases hl : lget ls k.val with _ | (z | q | z) <;> rw [hl] at hs <;> first | exact Wx_go hs | exact Wx_none hs
theorem u_istore (hd : decode (mB y) pc = .ok (.istore k, 2)) (hk : k < mL y) : Wx d y pc ls (vi z :: st) σ Q ↔ Wx d y (pc + 2) (lset ls k (vi z)) st σ Q := Wx_go ((s_eq hd rfl).trans (if_pos hk))
theorem u_istore_n {k : Fin 4} (hd : decode (mB y) pc = .ok (.istore_n k, 1)) (hk : k.val < mL y) : Wx d y pc ls (vi z :: st) σ Q ↔ Wx d y (pc + 1) (lset ls k.val (vi z)) st σ Q := Wx_go ((s_eq hd rfl).trans (if_pos hk))
theorem u_astore (hd : decode (mB y) pc = .ok (.astore k, 2)) (hk : k < mL y) : Wx d y pc ls (vr g j :: st) σ Q ↔ Wx d y (pc + 2) (lset ls k (vr g j)) st σ Q := Wx_go ((s_eq hd rfl).trans (if_pos hk))
theorem u_astore_n {k : Fin 4} (hd : decode (mB y) pc = .ok (.astore_n k, 1)) (hk : k.val < mL y) : Wx d y pc ls (vr g j :: st) σ Q ↔ Wx d y (pc + 1) (lset ls k.val (vr g j)) st σ Q := Wx_go ((s_eq hd rfl).trans (if_pos hk))
theorem u_lstore (hd : decode (mB y) pc = .ok (.lstore k, 2)) (hk : k + 1 < mL y) : Wx d y pc ls (vl z :: st) σ Q ↔ Wx d y (pc + 2) (lsetL ls k (vl z)) st σ Q := Wx_go ((s_eq hd rfl).trans (if_pos hk))
theorem u_lstore_n {k : Fin 4} (hd : decode (mB y) pc = .ok (.lstore_n k, 1)) (hk : k.val + 1 < mL y) : Wx d y pc ls (vl z :: st) σ Q ↔ Wx d y (pc + 1) (lsetL ls k.val (vl z)) st σ Q := Wx_go ((s_eq hd rfl).trans (if_pos hk))
theorem u_iinc {w : Int} (hd : decode (mB y) pc = .ok (.iinc k w, 3)) (hk : k < mL y) : Wx d y pc ls st σ Q ↔ Li (lget ls k) (fun z => Wx d y (pc + 3) (lset ls k (vi (z + w))) st σ Q) := by
  have hs : stp y pc ls st σ = stpI y pc 3 (.iinc k w) ls st σ := s_eq hd rfl
  dsimp only [stpI] at hs
  unfold Li
  rcases hl : lget ls k with _ | (z | q | z) <;> rw [hl] at hs
  · exact Wx_none hs
  · exact Wx_go (hs.trans (if_pos hk))
  · exact Wx_none hs
  · exact Wx_none hs
theorem u_iadd (hd : decode (mB y) pc = .ok (.iadd, 1)) : Wx d y pc ls (vi b :: vi a :: st) σ Q ↔ Wx d y (pc + 1) ls (vi (a + b) :: st) σ Q := Wx_go (s_eq hd rfl)
theorem u_isub (hd : decode (mB y) pc = .ok (.isub, 1)) : Wx d y pc ls (vi b :: vi a :: st) σ Q ↔ Wx d y (pc + 1) ls (vi (a - b) :: st) σ Q := Wx_go (s_eq hd rfl)
theorem u_imul (hd : decode (mB y) pc = .ok (.imul, 1)) : Wx d y pc ls (vi b :: vi a :: st) σ Q ↔ Wx d y (pc + 1) ls (vi (a * b) :: st) σ Q := Wx_go (s_eq hd rfl)
theorem u_iand (hd : decode (mB y) pc = .ok (.iand, 1)) : Wx d y pc ls (vi b :: vi a :: st) σ Q ↔ Wx d y (pc + 1) ls (vi ((i3 a &&& i3 b).toInt) :: st) σ Q := Wx_go (s_eq hd rfl)
theorem u_ior (hd : decode (mB y) pc = .ok (.ior, 1)) : Wx d y pc ls (vi b :: vi a :: st) σ Q ↔ Wx d y (pc + 1) ls (vi ((i3 a ||| i3 b).toInt) :: st) σ Q := Wx_go (s_eq hd rfl)
theorem u_ixor (hd : decode (mB y) pc = .ok (.ixor, 1)) : Wx d y pc ls (vi b :: vi a :: st) σ Q ↔ Wx d y (pc + 1) ls (vi ((i3 a ^^^ i3 b).toInt) :: st) σ Q := Wx_go (s_eq hd rfl)
theorem u_ishl (hd : decode (mB y) pc = .ok (.ishl, 1)) : Wx d y pc ls (vi b :: vi a :: st) σ Q ↔ Wx d y (pc + 1) ls (vi ((i3 a <<< (i3 b &&& 31)).toInt) :: st) σ Q := Wx_go (s_eq hd rfl)
theorem u_idiv (hd : decode (mB y) pc = .ok (.idiv, 1)) (h : (-2147483648 ≤ a ∧ a ≤ 2147483647) ∧ 0 < b ∧ b ≤ 2147483647) : Wx d y pc ls (vi b :: vi a :: st) σ Q ↔ Wx d y (pc + 1) ls (vi (Int.tdiv a b) :: st) σ Q := Wx_go ((s_eq hd rfl).trans (if_pos ⟨rng_iff.mpr h.1, h.2⟩))
theorem u_irem (hd : decode (mB y) pc = .ok (.irem, 1)) (h : (-2147483648 ≤ a ∧ a ≤ 2147483647) ∧ 0 < b ∧ b ≤ 2147483647) : Wx d y pc ls (vi b :: vi a :: st) σ Q ↔ Wx d y (pc + 1) ls (vi (Int.tmod a b) :: st) σ Q := Wx_go ((s_eq hd rfl).trans (if_pos ⟨rng_iff.mpr h.1, h.2⟩))
theorem u_ineg (hd : decode (mB y) pc = .ok (.ineg, 1)) : Wx d y pc ls (vi a :: st) σ Q ↔ Wx d y (pc + 1) ls (vi (-a) :: st) σ Q := Wx_go (s_eq hd rfl)
theorem u_i2l (hd : decode (mB y) pc = .ok (.i2l, 1)) (h : -2147483648 ≤ a ∧ a ≤ 2147483647) : Wx d y pc ls (vi a :: st) σ Q ↔ Wx d y (pc + 1) ls (vl a :: st) σ Q := Wx_go ((s_eq hd rfl).trans (if_pos (rng_iff.mpr h)))
theorem u_l2i (hd : decode (mB y) pc = .ok (.l2i, 1)) : Wx d y pc ls (vl a :: st) σ Q ↔ Wx d y (pc + 1) ls (vi a :: st) σ Q := Wx_go (s_eq hd rfl)
theorem u_ladd (hd : decode (mB y) pc = .ok (.ladd, 1)) : Wx d y pc ls (vl b :: vl a :: st) σ Q ↔ Wx d y (pc + 1) ls (vl (a + b) :: st) σ Q := Wx_go (s_eq hd rfl)
theorem u_lmul (hd : decode (mB y) pc = .ok (.lmul, 1)) : Wx d y pc ls (vl b :: vl a :: st) σ Q ↔ Wx d y (pc + 1) ls (vl (a * b) :: st) σ Q := Wx_go (s_eq hd rfl)
theorem u_lcmp (hd : decode (mB y) pc = .ok (.lcmp, 1)) : Wx d y pc ls (vl b :: vl a :: st) σ Q ↔ Wx d y (pc + 1) ls (vi (lg_cmp (i6 a) (i6 b)).toInt :: st) σ Q := Wx_go (s_eq hd rfl)
theorem u_dupi (hd : decode (mB y) pc = .ok (.dup, 1)) : Wx d y pc ls (vi a :: st) σ Q ↔ Wx d y (pc + 1) ls (vi a :: vi a :: st) σ Q := Wx_go (s_eq hd rfl)
theorem u_dupr (hd : decode (mB y) pc = .ok (.dup, 1)) : Wx d y pc ls (vr g j :: st) σ Q ↔ Wx d y (pc + 1) ls (vr g j :: vr g j :: st) σ Q := Wx_go (s_eq hd rfl)
theorem u_dup2 (hd : decode (mB y) pc = .ok (.dup2, 1)) : Wx d y pc ls (vi b :: vr g j :: st) σ Q ↔ Wx d y (pc + 1) ls (vi b :: vr g j :: vi b :: vr g j :: st) σ Q := Wx_go (s_eq hd rfl)
theorem u_dup_x1 (hd : decode (mB y) pc = .ok (.dup_x1, 1)) : Wx d y pc ls (vi b :: vr g j :: st) σ Q ↔ Wx d y (pc + 1) ls (vi b :: vr g j :: vi b :: st) σ Q := Wx_go (s_eq hd rfl)
theorem u_dup_x2 (hd : decode (mB y) pc = .ok (.dup_x2, 1)) : Wx d y pc ls (vi b :: vi a :: vr g j :: st) σ Q ↔ Wx d y (pc + 1) ls (vi b :: vi a :: vr g j :: vi b :: st) σ Q := Wx_go (s_eq hd rfl)
theorem u_pop (hd : decode (mB y) pc = .ok (.pop, 1)) : Wx d y pc ls (vi b :: st) σ Q ↔ Wx d y (pc + 1) ls st σ Q := Wx_go (s_eq hd rfl)
theorem u_ifeq {off : Int} (hd : decode (mB y) pc = .ok (.ifCond .eq off, 3)) (ht : (pc : Int) + off = (t : Int)) (hr : -2147483648 ≤ a ∧ a ≤ 2147483647) : Wx d y pc ls (vi a :: st) σ Q ↔ if a = 0 then Wx d y t ls st σ Q else Wx d y (pc + 3) ls st σ Q := by
  rw [g_brn (c := cnb .eq (i3 a) 0 = true) (s_eq hd rfl) ht]
  have e : (cnb .eq (i3 a) 0 = true) ↔ (a = 0) := decide_eq_true_iff.trans (i3_eq hr (b := 0) (by omega))
  simp only [e]
theorem u_iceq {off : Int} (hd : decode (mB y) pc = .ok (.if_icmp .eq off, 3)) (ht : (pc : Int) + off = (t : Int)) (hr : -2147483648 ≤ a ∧ a ≤ 2147483647) (hq : -2147483648 ≤ b ∧ b ≤ 2147483647) : Wx d y pc ls (vi b :: vi a :: st) σ Q ↔ if a = b then Wx d y t ls st σ Q else Wx d y (pc + 3) ls st σ Q := by
  rw [g_brn (c := cnb .eq (i3 a) (i3 b) = true) (s_eq hd rfl) ht]
  have e : (cnb .eq (i3 a) (i3 b) = true) ↔ (a = b) := decide_eq_true_iff.trans (i3_eq hr hq)
  simp only [e]
theorem u_ifne {off : Int} (hd : decode (mB y) pc = .ok (.ifCond .ne off, 3)) (ht : (pc : Int) + off = (t : Int)) (hr : -2147483648 ≤ a ∧ a ≤ 2147483647) : Wx d y pc ls (vi a :: st) σ Q ↔ if ¬ a = 0 then Wx d y t ls st σ Q else Wx d y (pc + 3) ls st σ Q := by
  rw [g_brn (c := cnb .ne (i3 a) 0 = true) (s_eq hd rfl) ht]
  have e : (cnb .ne (i3 a) 0 = true) ↔ (¬ a = 0) := decide_eq_true_iff.trans (not_congr (i3_eq hr (b := 0) (by omega)))
  simp only [e]
theorem u_icne {off : Int} (hd : decode (mB y) pc = .ok (.if_icmp .ne off, 3)) (ht : (pc : Int) + off = (t : Int)) (hr : -2147483648 ≤ a ∧ a ≤ 2147483647) (hq : -2147483648 ≤ b ∧ b ≤ 2147483647) : Wx d y pc ls (vi b :: vi a :: st) σ Q ↔ if ¬ a = b then Wx d y t ls st σ Q else Wx d y (pc + 3) ls st σ Q := by
  rw [g_brn (c := cnb .ne (i3 a) (i3 b) = true) (s_eq hd rfl) ht]
  have e : (cnb .ne (i3 a) (i3 b) = true) ↔ (¬ a = b) := decide_eq_true_iff.trans (not_congr (i3_eq hr hq))
  simp only [e]
theorem u_iflt {off : Int} (hd : decode (mB y) pc = .ok (.ifCond .lt off, 3)) (ht : (pc : Int) + off = (t : Int)) (hr : -2147483648 ≤ a ∧ a ≤ 2147483647) : Wx d y pc ls (vi a :: st) σ Q ↔ if a < 0 then Wx d y t ls st σ Q else Wx d y (pc + 3) ls st σ Q := by
  rw [g_brn (c := cnb .lt (i3 a) 0 = true) (s_eq hd rfl) ht]
  have e : (cnb .lt (i3 a) 0 = true) ↔ (a < 0) := decide_eq_true_iff.trans (i3_lt hr (b := 0) (by omega))
  simp only [e]
theorem u_iclt {off : Int} (hd : decode (mB y) pc = .ok (.if_icmp .lt off, 3)) (ht : (pc : Int) + off = (t : Int)) (hr : -2147483648 ≤ a ∧ a ≤ 2147483647) (hq : -2147483648 ≤ b ∧ b ≤ 2147483647) : Wx d y pc ls (vi b :: vi a :: st) σ Q ↔ if a < b then Wx d y t ls st σ Q else Wx d y (pc + 3) ls st σ Q := by
  rw [g_brn (c := cnb .lt (i3 a) (i3 b) = true) (s_eq hd rfl) ht]
  have e : (cnb .lt (i3 a) (i3 b) = true) ↔ (a < b) := decide_eq_true_iff.trans (i3_lt hr hq)
  simp only [e]
theorem u_ifge {off : Int} (hd : decode (mB y) pc = .ok (.ifCond .ge off, 3)) (ht : (pc : Int) + off = (t : Int)) (hr : -2147483648 ≤ a ∧ a ≤ 2147483647) : Wx d y pc ls (vi a :: st) σ Q ↔ if 0 ≤ a then Wx d y t ls st σ Q else Wx d y (pc + 3) ls st σ Q := by
  rw [g_brn (c := cnb .ge (i3 a) 0 = true) (s_eq hd rfl) ht]
  have e : (cnb .ge (i3 a) 0 = true) ↔ (0 ≤ a) := decide_eq_true_iff.trans (i3_le (a := 0) (by omega) hr)
  simp only [e]
theorem u_icge {off : Int} (hd : decode (mB y) pc = .ok (.if_icmp .ge off, 3)) (ht : (pc : Int) + off = (t : Int)) (hr : -2147483648 ≤ a ∧ a ≤ 2147483647) (hq : -2147483648 ≤ b ∧ b ≤ 2147483647) : Wx d y pc ls (vi b :: vi a :: st) σ Q ↔ if b ≤ a then Wx d y t ls st σ Q else Wx d y (pc + 3) ls st σ Q := by
  rw [g_brn (c := cnb .ge (i3 a) (i3 b) = true) (s_eq hd rfl) ht]
  have e : (cnb .ge (i3 a) (i3 b) = true) ↔ (b ≤ a) := decide_eq_true_iff.trans (i3_le hq hr)
  simp only [e]
theorem u_ifgt {off : Int} (hd : decode (mB y) pc = .ok (.ifCond .gt off, 3)) (ht : (pc : Int) + off = (t : Int)) (hr : -2147483648 ≤ a ∧ a ≤ 2147483647) : Wx d y pc ls (vi a :: st) σ Q ↔ if 0 < a then Wx d y t ls st σ Q else Wx d y (pc + 3) ls st σ Q := by
  rw [g_brn (c := cnb .gt (i3 a) 0 = true) (s_eq hd rfl) ht]
  have e : (cnb .gt (i3 a) 0 = true) ↔ (0 < a) := decide_eq_true_iff.trans (i3_lt (a := 0) (by omega) hr)
  simp only [e]
theorem u_icgt {off : Int} (hd : decode (mB y) pc = .ok (.if_icmp .gt off, 3)) (ht : (pc : Int) + off = (t : Int)) (hr : -2147483648 ≤ a ∧ a ≤ 2147483647) (hq : -2147483648 ≤ b ∧ b ≤ 2147483647) : Wx d y pc ls (vi b :: vi a :: st) σ Q ↔ if b < a then Wx d y t ls st σ Q else Wx d y (pc + 3) ls st σ Q := by
  rw [g_brn (c := cnb .gt (i3 a) (i3 b) = true) (s_eq hd rfl) ht]
  have e : (cnb .gt (i3 a) (i3 b) = true) ↔ (b < a) := decide_eq_true_iff.trans (i3_lt hq hr)
  simp only [e]
theorem u_ifle {off : Int} (hd : decode (mB y) pc = .ok (.ifCond .le off, 3)) (ht : (pc : Int) + off = (t : Int)) (hr : -2147483648 ≤ a ∧ a ≤ 2147483647) : Wx d y pc ls (vi a :: st) σ Q ↔ if a ≤ 0 then Wx d y t ls st σ Q else Wx d y (pc + 3) ls st σ Q := by
  rw [g_brn (c := cnb .le (i3 a) 0 = true) (s_eq hd rfl) ht]
  have e : (cnb .le (i3 a) 0 = true) ↔ (a ≤ 0) := decide_eq_true_iff.trans (i3_le hr (b := 0) (by omega))
  simp only [e]
theorem u_icle {off : Int} (hd : decode (mB y) pc = .ok (.if_icmp .le off, 3)) (ht : (pc : Int) + off = (t : Int)) (hr : -2147483648 ≤ a ∧ a ≤ 2147483647) (hq : -2147483648 ≤ b ∧ b ≤ 2147483647) : Wx d y pc ls (vi b :: vi a :: st) σ Q ↔ if a ≤ b then Wx d y t ls st σ Q else Wx d y (pc + 3) ls st σ Q := by
  rw [g_brn (c := cnb .le (i3 a) (i3 b) = true) (s_eq hd rfl) ht]
  have e : (cnb .le (i3 a) (i3 b) = true) ↔ (a ≤ b) := decide_eq_true_iff.trans (i3_le hr hq)
  simp only [e]
theorem u_goto {off : Int} (hd : decode (mB y) pc = .ok (.goto off, 3)) (ht : (pc : Int) + off = (t : Int)) : Wx d y pc ls st σ Q ↔ Wx d y t ls st σ Q := Wx_go ((s_eq hd rfl).trans ((if_pos (by omega)).trans (by rw [show ((pc : Int) + off).toNat = t by omega]; rfl)))
theorem u_table {dd lo hi : Int} {offs : Array Int} {w : Nat} (hd : decode (mB y) pc = .ok (.tableswitch dd lo hi offs, w)) : Wx d y pc ls (vi a :: st) σ Q ↔ On (stpI y pc w (.tableswitch dd lo hi offs) ls (vi a :: st) σ) (fun q => Sum.elim (fun q => Wx d y q.1 q.2.1 q.2.2.1 q.2.2.2 Q) (fun _ => False) q) := by
  have hs : stp y pc ls (vi a :: st) σ = stpI y pc w (.tableswitch dd lo hi offs) ls (vi a :: st) σ := s_eq hd rfl
  cases h : stpI y pc w (.tableswitch dd lo hi offs) ls (vi a :: st) σ with
  | none => exact Wx_none (hs.trans h)
  | some q =>
    rcases q with ⟨pc', ls', st', σ'⟩ | q
    · exact Wx_go (hs.trans h)
    · exfalso
      dsimp only [stpI, go] at h
      repeat' split at h
      all_goals cases h
theorem u_lookup {dd : Int} {ps : Array (Int × Int)} {w : Nat} (hd : decode (mB y) pc = .ok (.lookupswitch dd ps, w)) (hp : (ps.toList.zip (ps.toList.drop 1)).all (fun (x, nx) => x.1 < nx.1) = true) (hr : -2147483648 ≤ a ∧ a ≤ 2147483647) (ht : (pc : Int) + Op.lookupswitch.offset ps.toList dd a = (t : Int)) : Wx d y pc ls (vi a :: st) σ Q ↔ Wx d y t ls st σ Q := by
  have hs : stp y pc ls (vi a :: st) σ = stpI y pc w (.lookupswitch dd ps) ls (vi a :: st) σ := s_eq hd rfl
  dsimp only [stpI] at hs
  rw [i3_I hr.1 hr.2] at hs
  rw [if_pos ⟨hp, by omega⟩, ht] at hs
  exact Wx_go hs
theorem u_get {w : Nat × Nat} (hd : decode (mB y) pc = .ok (.getfield k, 3)) (hf : fl (mO y) k = some w) : Wx d y pc ls (vr g j :: st) σ Q ↔ isO g j w.1 ∧ Wx d y (pc + 3) ls (fvv σ g j w.2 :: st) σ Q :=
  g_ite (c := rt g j = 5 ∧ inR g j = true ∧ rc g j = w.1) ((s_eq hd rfl).trans (by dsimp only [stpI]; rw [hf]))
theorem u_put {w : Nat × Nat} (hd : decode (mB y) pc = .ok (.putfield k, 3)) (hf : fl (mO y) k = some w) (hc : ct w.1 w.2 = .int) (hn : (cF w.1 w.2).2.2.2 = false) : Wx d y pc ls (vi z :: vr g j :: st) σ Q ↔ (isO g j w.1 ∧ rf g j w.2 = none) ∧ Wx d y (pc + 3) ls st (up σ g j w.2 z) Q := by
  refine (g_ite ((s_eq hd rfl).trans (by dsimp only [stpI]; rw [hf]))).trans (and_congr ?_ Iff.rfl)
  exact ⟨fun h => ⟨⟨h.1, h.2.1, h.2.2.1⟩, h.2.2.2.1⟩, fun h => ⟨h.1.1, h.1.2.1, h.1.2.2, h.2, Or.inl hc, hn⟩⟩
theorem u_putz {w : Nat × Nat} (hd : decode (mB y) pc = .ok (.putfield k, 3)) (hf : fl (mO y) k = some w) (hc : ct w.1 w.2 = .boolean) (hn : (cF w.1 w.2).2.2.2 = false) : Wx d y pc ls (vi z :: vr g j :: st) σ Q ↔ (isO g j w.1 ∧ rf g j w.2 = none ∧ (z = 0 ∨ z = 1)) ∧ Wx d y (pc + 3) ls st (up σ g j w.2 z) Q := by
  refine (g_ite ((s_eq hd rfl).trans (by dsimp only [stpI]; rw [hf]))).trans (and_congr ?_ Iff.rfl)
  constructor
  · rintro ⟨h1, h2, h3, h4, h5, -⟩
    refine ⟨⟨h1, h2, h3⟩, h4, ?_⟩
    rcases h5 with h5 | h5
    · rw [hc] at h5
      cases h5
    · exact h5.2
  · rintro ⟨⟨h1, h2, h3⟩, h4, h5⟩
    exact ⟨h1, h2, h3, h4, Or.inr ⟨hc, h5⟩, hn⟩
theorem u_gets (hd : decode (mB y) pc = .ok (.getstatic k, 3)) (hs : sl (mO y) k = some j) : Wx d y pc ls st σ Q ↔ Wx d y (pc + 3) ls (vr 13 j :: st) σ Q := Wx_go ((s_eq hd rfl).trans (by dsimp only [stpI]; rw [hs]; rfl))
theorem u_iald (hd : decode (mB y) pc = .ok (.iaload, 1)) : Wx d y pc ls (vi z :: vr g j :: st) σ Q ↔ On (ial σ g j z) (fun x => Wx d y (pc + 1) ls (vi x :: st) σ Q) := by
  have hs : stp y pc ls (vi z :: vr g j :: st) σ = stpI y pc 1 .iaload ls (vi z :: vr g j :: st) σ := s_eq hd rfl
  dsimp only [stpI] at hs
  cases h : ial σ g j z with
  | none => rw [h] at hs; exact Wx_none hs
  | some x => rw [h] at hs; exact Wx_go hs
theorem u_iast (hd : decode (mB y) pc = .ok (.iastore, 1)) : Wx d y pc ls (vi x :: vi z :: vr g j :: st) σ Q ↔ isA g j 0 z ∧ Wx d y (pc + 1) ls st (up σ g j z.toNat x) Q := g_ite (c := rt g j = 0 ∧ inR g j = true ∧ 0 ≤ z ∧ z < rn g j) (s_eq hd rfl)
theorem u_zald (hd : decode (mB y) pc = .ok (.baload, 1)) : Wx d y pc ls (vi z :: vr g j :: st) σ Q ↔ isA g j 1 z ∧ Wx d y (pc + 1) ls (vi (σ g j z.toNat) :: st) σ Q := g_ite (c := rt g j = 1 ∧ inR g j = true ∧ 0 ≤ z ∧ z < rn g j) (s_eq hd rfl)
theorem u_zast (hd : decode (mB y) pc = .ok (.bastore, 1)) : Wx d y pc ls (vi x :: vi z :: vr g j :: st) σ Q ↔ (isA g j 1 z ∧ (x = 0 ∨ x = 1)) ∧ Wx d y (pc + 1) ls st (up σ g j z.toNat x) Q :=
  (g_ite (s_eq hd rfl)).trans (and_congr ⟨fun h => ⟨⟨h.1, h.2.1, h.2.2.1, h.2.2.2.1⟩, h.2.2.2.2⟩, fun h => ⟨h.1.1, h.1.2.1, h.1.2.2.1, h.1.2.2.2, h.2⟩⟩ Iff.rfl)
theorem u_last (hd : decode (mB y) pc = .ok (.lastore, 1)) : Wx d y pc ls (vl x :: vi z :: vr g j :: st) σ Q ↔ isA g j 4 z ∧ Wx d y (pc + 1) ls st (up σ g j z.toNat x) Q := g_ite (c := rt g j = 4 ∧ inR g j = true ∧ 0 ≤ z ∧ z < rn g j) (s_eq hd rfl)
theorem u_lald (hd : decode (mB y) pc = .ok (.laload, 1)) : Wx d y pc ls (vi z :: vr g j :: st) σ Q ↔ isA g j 4 z ∧ Wx d y (pc + 1) ls (vl (σ g j z.toNat) :: st) σ Q := g_ite (c := rt g j = 4 ∧ inR g j = true ∧ 0 ≤ z ∧ z < rn g j) (s_eq hd rfl)
theorem u_aald (hd : decode (mB y) pc = .ok (.aaload, 1)) : Wx d y pc ls (vi z :: vr g j :: st) σ Q ↔ (isA g j 2 z ∨ isA g j 3 z) ∧ On (rf g j z.toNat) (fun w => Wx d y (pc + 1) ls (.inr (.inl w) :: st) σ Q) := by
  have hs : stp y pc ls (vi z :: vr g j :: st) σ = stpI y pc 1 .aaload ls (vi z :: vr g j :: st) σ := s_eq hd rfl
  dsimp only [stpI] at hs
  cases h : rf g j z.toNat with
  | none =>
    rw [h] at hs
    exact (Wx_none hs).trans ⟨False.elim, fun q => q.2⟩
  | some w =>
    rw [h] at hs
    refine (g_ite hs).trans (and_congr ?_ Iff.rfl)
    constructor
    · rintro ⟨h1 | h1, h2⟩
      · exact Or.inl ⟨h1, h2⟩
      · exact Or.inr ⟨h1, h2⟩
    · rintro (⟨h1, h2⟩ | ⟨h1, h2⟩)
      · exact ⟨Or.inl h1, h2⟩
      · exact ⟨Or.inr h1, h2⟩
theorem u_alen (hd : decode (mB y) pc = .ok (.arraylength, 1)) : Wx d y pc ls (vr g j :: st) σ Q ↔ On (aln σ g j) (fun x => Wx d y (pc + 1) ls (vi x :: st) σ Q) := by
  have hs : stp y pc ls (vr g j :: st) σ = stpI y pc 1 .arraylength ls (vr g j :: st) σ := s_eq hd rfl
  dsimp only [stpI] at hs
  cases h : aln σ g j with
  | none => rw [h] at hs; exact Wx_none hs
  | some x => rw [h] at hs; exact Wx_go hs
theorem g_cal {c : Prop} [Decidable c] {st : List Va} {y' : Nat} {as : List Va} {ls' : Lo} {st' : List Va} (hs : stp y pc ls st σ = if c then cal y' as (pc + 3) ls' st' σ' else none) : Wx (d + 1) y pc ls st σ Q ↔ c ∧ Wm d y' as σ' (Kc (d + 1) y (pc + 3) ls' st' Q) := by
  by_cases h : c
  · rw [if_pos h] at hs
    exact (Wx_cal hs).trans ⟨fun w => ⟨h, w⟩, And.right⟩
  · rw [if_neg h] at hs
    exact (Wx_none hs).trans ⟨False.elim, fun w => h w.1⟩
theorem u_inv0 {y' : Nat} (hd : decode (mB y) pc = .ok (.invokevirtual k, 3)) (hm : ml (mO y) k = some y') (hn : mN y' = 0) (hs : mS y' = false) : Wx (d + 1) y pc ls (vr g j :: st) σ Q ↔ (isO g j (mO y') ∧ st.length ≤ 4 ∧ nlg [] = true) ∧ Wm d y' [vr g j] σ (Kc (d + 1) y (pc + 3) ls st Q) := by
  refine (g_cal (y' := y') (as := [vr g j]) (ls' := ls) (st' := st) ((s_eq hd rfl).trans (by dsimp only [stpI]; rw [hm]; dsimp only; rw [hn]; rfl))).trans (and_congr ?_ Iff.rfl)
  exact ⟨fun h => ⟨⟨h.1, h.2.1, h.2.2.1⟩, h.2.2.2.1, h.2.2.2.2.2.2⟩, fun h => ⟨h.1.1, h.1.2.1, h.1.2.2, h.2.1, hs, by simp, h.2.2⟩⟩
theorem u_inv1 {y' : Nat} {a1 : Va} (hd : decode (mB y) pc = .ok (.invokevirtual k, 3)) (hm : ml (mO y) k = some y') (hn : mN y' = 1) (hs : mS y' = false) : Wx (d + 1) y pc ls (a1 :: vr g j :: st) σ Q ↔ (isO g j (mO y') ∧ st.length ≤ 4 ∧ nlg [a1] = true) ∧ Wm d y' [vr g j, a1] σ (Kc (d + 1) y (pc + 3) ls st Q) := by
  refine (g_cal (y' := y') (as := [vr g j, a1]) (ls' := ls) (st' := st) ((s_eq hd rfl).trans (by dsimp only [stpI]; rw [hm]; dsimp only; rw [hn]; rfl))).trans (and_congr ?_ Iff.rfl)
  exact ⟨fun h => ⟨⟨h.1, h.2.1, h.2.2.1⟩, h.2.2.2.1, h.2.2.2.2.2.2⟩, fun h => ⟨h.1.1, h.1.2.1, h.1.2.2, h.2.1, hs, by simp, h.2.2⟩⟩
theorem u_inv2 {y' : Nat} {a1 a2 : Va} (hd : decode (mB y) pc = .ok (.invokevirtual k, 3)) (hm : ml (mO y) k = some y') (hn : mN y' = 2) (hs : mS y' = false) : Wx (d + 1) y pc ls (a2 :: a1 :: vr g j :: st) σ Q ↔ (isO g j (mO y') ∧ st.length ≤ 4 ∧ nlg [a2, a1] = true) ∧ Wm d y' [vr g j, a1, a2] σ (Kc (d + 1) y (pc + 3) ls st Q) := by
  refine (g_cal (y' := y') (as := [vr g j, a1, a2]) (ls' := ls) (st' := st) ((s_eq hd rfl).trans (by dsimp only [stpI]; rw [hm]; dsimp only; rw [hn]; rfl))).trans (and_congr ?_ Iff.rfl)
  exact ⟨fun h => ⟨⟨h.1, h.2.1, h.2.2.1⟩, h.2.2.2.1, h.2.2.2.2.2.2⟩, fun h => ⟨h.1.1, h.1.2.1, h.1.2.2, h.2.1, hs, by simp, h.2.2⟩⟩
theorem u_inv3 {y' : Nat} {a1 a2 a3 : Va} (hd : decode (mB y) pc = .ok (.invokevirtual k, 3)) (hm : ml (mO y) k = some y') (hn : mN y' = 3) (hs : mS y' = false) : Wx (d + 1) y pc ls (a3 :: a2 :: a1 :: vr g j :: st) σ Q ↔ (isO g j (mO y') ∧ st.length ≤ 4 ∧ nlg [a3, a2, a1] = true) ∧ Wm d y' [vr g j, a1, a2, a3] σ (Kc (d + 1) y (pc + 3) ls st Q) := by
  refine (g_cal (y' := y') (as := [vr g j, a1, a2, a3]) (ls' := ls) (st' := st) ((s_eq hd rfl).trans (by dsimp only [stpI]; rw [hm]; dsimp only; rw [hn]; rfl))).trans (and_congr ?_ Iff.rfl)
  exact ⟨fun h => ⟨⟨h.1, h.2.1, h.2.2.1⟩, h.2.2.2.1, h.2.2.2.2.2.2⟩, fun h => ⟨h.1.1, h.1.2.1, h.1.2.2, h.2.1, hs, by simp, h.2.2⟩⟩
theorem u_inv4 {y' : Nat} {a1 a2 a3 a4 : Va} (hd : decode (mB y) pc = .ok (.invokevirtual k, 3)) (hm : ml (mO y) k = some y') (hn : mN y' = 4) (hs : mS y' = false) : Wx (d + 1) y pc ls (a4 :: a3 :: a2 :: a1 :: vr g j :: st) σ Q ↔ (isO g j (mO y') ∧ st.length ≤ 4 ∧ nlg [a4, a3, a2, a1] = true) ∧ Wm d y' [vr g j, a1, a2, a3, a4] σ (Kc (d + 1) y (pc + 3) ls st Q) := by
  refine (g_cal (y' := y') (as := [vr g j, a1, a2, a3, a4]) (ls' := ls) (st' := st) ((s_eq hd rfl).trans (by dsimp only [stpI]; rw [hm]; dsimp only; rw [hn]; rfl))).trans (and_congr ?_ Iff.rfl)
  exact ⟨fun h => ⟨⟨h.1, h.2.1, h.2.2.1⟩, h.2.2.2.1, h.2.2.2.2.2.2⟩, fun h => ⟨h.1.1, h.1.2.1, h.1.2.2, h.2.1, hs, by simp, h.2.2⟩⟩
theorem u_inv5 {y' : Nat} {a1 a2 a3 a4 a5 : Va} (hd : decode (mB y) pc = .ok (.invokevirtual k, 3)) (hm : ml (mO y) k = some y') (hn : mN y' = 5) (hs : mS y' = false) : Wx (d + 1) y pc ls (a5 :: a4 :: a3 :: a2 :: a1 :: vr g j :: st) σ Q ↔ (isO g j (mO y') ∧ st.length ≤ 4 ∧ nlg [a5, a4, a3, a2, a1] = true) ∧ Wm d y' [vr g j, a1, a2, a3, a4, a5] σ (Kc (d + 1) y (pc + 3) ls st Q) := by
  refine (g_cal (y' := y') (as := [vr g j, a1, a2, a3, a4, a5]) (ls' := ls) (st' := st) ((s_eq hd rfl).trans (by dsimp only [stpI]; rw [hm]; dsimp only; rw [hn]; rfl))).trans (and_congr ?_ Iff.rfl)
  exact ⟨fun h => ⟨⟨h.1, h.2.1, h.2.2.1⟩, h.2.2.2.1, h.2.2.2.2.2.2⟩, fun h => ⟨h.1.1, h.1.2.1, h.1.2.2, h.2.1, hs, by simp, h.2.2⟩⟩
theorem u_sta0 {y' : Nat} (hd : decode (mB y) pc = .ok (.invokestatic k, 3)) (hm : ml (mO y) k = some y') (hn : mN y' = 0) (hs : mS y' = true) (h0 : ¬ y' = 1000) (h1 : ¬ y' = 1001) (h2 : ¬ y' = 1002) : Wx (d + 1) y pc ls (st) σ Q ↔ (st.length ≤ 4 ∧ nlg [] = true) ∧ Wm d y' [] σ (Kc (d + 1) y (pc + 3) ls st Q) := by
  refine (g_cal (y' := y') (as := []) (ls' := ls) (st' := st) ((s_eq hd rfl).trans (by dsimp only [stpI]; rw [hm]; dsimp only; rw [if_neg h0, if_neg h1, if_neg h2, hn]; rfl))).trans (and_congr ?_ Iff.rfl)
  exact ⟨fun h => ⟨h.2.2.1, h.2.2.2⟩, fun h => ⟨hs, by simp, h.1, h.2⟩⟩
theorem u_sta1 {y' : Nat} {a1 : Va} (hd : decode (mB y) pc = .ok (.invokestatic k, 3)) (hm : ml (mO y) k = some y') (hn : mN y' = 1) (hs : mS y' = true) (h0 : ¬ y' = 1000) (h1 : ¬ y' = 1001) (h2 : ¬ y' = 1002) : Wx (d + 1) y pc ls (a1 :: st) σ Q ↔ (st.length ≤ 4 ∧ nlg [a1] = true) ∧ Wm d y' [a1] σ (Kc (d + 1) y (pc + 3) ls st Q) := by
  refine (g_cal (y' := y') (as := [a1]) (ls' := ls) (st' := st) ((s_eq hd rfl).trans (by dsimp only [stpI]; rw [hm]; dsimp only; rw [if_neg h0, if_neg h1, if_neg h2, hn]; rfl))).trans (and_congr ?_ Iff.rfl)
  exact ⟨fun h => ⟨h.2.2.1, h.2.2.2⟩, fun h => ⟨hs, by simp, h.1, h.2⟩⟩
theorem u_sta2 {y' : Nat} {a1 a2 : Va} (hd : decode (mB y) pc = .ok (.invokestatic k, 3)) (hm : ml (mO y) k = some y') (hn : mN y' = 2) (hs : mS y' = true) (h0 : ¬ y' = 1000) (h1 : ¬ y' = 1001) (h2 : ¬ y' = 1002) : Wx (d + 1) y pc ls (a2 :: a1 :: st) σ Q ↔ (st.length ≤ 4 ∧ nlg [a2, a1] = true) ∧ Wm d y' [a1, a2] σ (Kc (d + 1) y (pc + 3) ls st Q) := by
  refine (g_cal (y' := y') (as := [a1, a2]) (ls' := ls) (st' := st) ((s_eq hd rfl).trans (by dsimp only [stpI]; rw [hm]; dsimp only; rw [if_neg h0, if_neg h1, if_neg h2, hn]; rfl))).trans (and_congr ?_ Iff.rfl)
  exact ⟨fun h => ⟨h.2.2.1, h.2.2.2⟩, fun h => ⟨hs, by simp, h.1, h.2⟩⟩
theorem u_sta3 {y' : Nat} {a1 a2 a3 : Va} (hd : decode (mB y) pc = .ok (.invokestatic k, 3)) (hm : ml (mO y) k = some y') (hn : mN y' = 3) (hs : mS y' = true) (h0 : ¬ y' = 1000) (h1 : ¬ y' = 1001) (h2 : ¬ y' = 1002) : Wx (d + 1) y pc ls (a3 :: a2 :: a1 :: st) σ Q ↔ (st.length ≤ 4 ∧ nlg [a3, a2, a1] = true) ∧ Wm d y' [a1, a2, a3] σ (Kc (d + 1) y (pc + 3) ls st Q) := by
  refine (g_cal (y' := y') (as := [a1, a2, a3]) (ls' := ls) (st' := st) ((s_eq hd rfl).trans (by dsimp only [stpI]; rw [hm]; dsimp only; rw [if_neg h0, if_neg h1, if_neg h2, hn]; rfl))).trans (and_congr ?_ Iff.rfl)
  exact ⟨fun h => ⟨h.2.2.1, h.2.2.2⟩, fun h => ⟨hs, by simp, h.1, h.2⟩⟩
theorem u_hlp2 {y' : Nat} {a1 a2 : Va} (hd : decode (mB y) pc = .ok (.invokestatic k, 3)) (hy : y = 129) (hm : ml (mO y) k = none) (hh : hl k = some y') (hn : mN y' = 2) : Wx (d + 1) y pc ls (a2 :: a1 :: st) σ Q ↔ (st.length ≤ 4 ∧ nlg [a2, a1] = true) ∧ Wm d y' [a1, a2] σ (Kc (d + 1) y (pc + 3) ls st Q) := by
  refine (g_cal (y' := y') (as := [a1, a2]) (ls' := ls) (st' := st) ((s_eq hd rfl).trans (by dsimp only [stpI]; rw [hm]; dsimp only; rw [if_pos hy, hh]; dsimp only; rw [hn]; rfl))).trans (and_congr ?_ Iff.rfl)
  exact ⟨fun h => ⟨h.2.1, h.2.2⟩, fun h => ⟨by simp, h.1, h.2⟩⟩
theorem u_hlp3 {y' : Nat} {a1 a2 a3 : Va} (hd : decode (mB y) pc = .ok (.invokestatic k, 3)) (hy : y = 129) (hm : ml (mO y) k = none) (hh : hl k = some y') (hn : mN y' = 3) : Wx (d + 1) y pc ls (a3 :: a2 :: a1 :: st) σ Q ↔ (st.length ≤ 4 ∧ nlg [a3, a2, a1] = true) ∧ Wm d y' [a1, a2, a3] σ (Kc (d + 1) y (pc + 3) ls st Q) := by
  refine (g_cal (y' := y') (as := [a1, a2, a3]) (ls' := ls) (st' := st) ((s_eq hd rfl).trans (by dsimp only [stpI]; rw [hm]; dsimp only; rw [if_pos hy, hh]; dsimp only; rw [hn]; rfl))).trans (and_congr ?_ Iff.rfl)
  exact ⟨fun h => ⟨h.2.1, h.2.2⟩, fun h => ⟨by simp, h.1, h.2⟩⟩
theorem u_hlp4 {y' : Nat} {a1 a2 a3 a4 : Va} (hd : decode (mB y) pc = .ok (.invokestatic k, 3)) (hy : y = 129) (hm : ml (mO y) k = none) (hh : hl k = some y') (hn : mN y' = 4) : Wx (d + 1) y pc ls (a4 :: a3 :: a2 :: a1 :: st) σ Q ↔ (st.length ≤ 4 ∧ nlg [a4, a3, a2, a1] = true) ∧ Wm d y' [a1, a2, a3, a4] σ (Kc (d + 1) y (pc + 3) ls st Q) := by
  refine (g_cal (y' := y') (as := [a1, a2, a3, a4]) (ls' := ls) (st' := st) ((s_eq hd rfl).trans (by dsimp only [stpI]; rw [hm]; dsimp only; rw [if_pos hy, hh]; dsimp only; rw [hn]; rfl))).trans (and_congr ?_ Iff.rfl)
  exact ⟨fun h => ⟨h.2.1, h.2.2⟩, fun h => ⟨by simp, h.1, h.2⟩⟩
theorem u_hlp5 {y' : Nat} {a1 a2 a3 a4 a5 : Va} (hd : decode (mB y) pc = .ok (.invokestatic k, 3)) (hy : y = 129) (hm : ml (mO y) k = none) (hh : hl k = some y') (hn : mN y' = 5) : Wx (d + 1) y pc ls (a5 :: a4 :: a3 :: a2 :: a1 :: st) σ Q ↔ (st.length ≤ 4 ∧ nlg [a5, a4, a3, a2, a1] = true) ∧ Wm d y' [a1, a2, a3, a4, a5] σ (Kc (d + 1) y (pc + 3) ls st Q) := by
  refine (g_cal (y' := y') (as := [a1, a2, a3, a4, a5]) (ls' := ls) (st' := st) ((s_eq hd rfl).trans (by dsimp only [stpI]; rw [hm]; dsimp only; rw [if_pos hy, hh]; dsimp only; rw [hn]; rfl))).trans (and_congr ?_ Iff.rfl)
  exact ⟨fun h => ⟨h.2.1, h.2.2⟩, fun h => ⟨by simp, h.1, h.2⟩⟩
theorem u_hlp6 {y' : Nat} {a1 a2 a3 a4 a5 a6 : Va} (hd : decode (mB y) pc = .ok (.invokestatic k, 3)) (hy : y = 129) (hm : ml (mO y) k = none) (hh : hl k = some y') (hn : mN y' = 6) : Wx (d + 1) y pc ls (a6 :: a5 :: a4 :: a3 :: a2 :: a1 :: st) σ Q ↔ (st.length ≤ 4 ∧ nlg [a6, a5, a4, a3, a2, a1] = true) ∧ Wm d y' [a1, a2, a3, a4, a5, a6] σ (Kc (d + 1) y (pc + 3) ls st Q) := by
  refine (g_cal (y' := y') (as := [a1, a2, a3, a4, a5, a6]) (ls' := ls) (st' := st) ((s_eq hd rfl).trans (by dsimp only [stpI]; rw [hm]; dsimp only; rw [if_pos hy, hh]; dsimp only; rw [hn]; rfl))).trans (and_congr ?_ Iff.rfl)
  exact ⟨fun h => ⟨h.2.1, h.2.2⟩, fun h => ⟨by simp, h.1, h.2⟩⟩
theorem u_max (hd : decode (mB y) pc = .ok (.invokestatic k, 3)) (hm : ml (mO y) k = some 1000) (ha : -2147483648 ≤ a ∧ a ≤ 2147483647) (hb : -2147483648 ≤ b ∧ b ≤ 2147483647) (hl : st.length ≤ 4) : Wx d y pc ls (vi b :: vi a :: st) σ Q ↔ Wx d y (pc + 3) ls (vi (max a b) :: st) σ Q :=
  Wx_go ((s_eq hd rfl).trans (by dsimp only [stpI]; rw [hm]; dsimp only; rw [if_pos rfl]; exact if_pos ⟨rng_iff.mpr ha, rng_iff.mpr hb, hl⟩))
theorem u_min (hd : decode (mB y) pc = .ok (.invokestatic k, 3)) (hm : ml (mO y) k = some 1001) (ha : -2147483648 ≤ a ∧ a ≤ 2147483647) (hb : -2147483648 ≤ b ∧ b ≤ 2147483647) (hl : st.length ≤ 4) : Wx d y pc ls (vi b :: vi a :: st) σ Q ↔ Wx d y (pc + 3) ls (vi (min a b) :: st) σ Q :=
  Wx_go ((s_eq hd rfl).trans (by dsimp only [stpI]; rw [hm]; dsimp only; rw [if_neg (by decide), if_pos rfl]; exact if_pos ⟨rng_iff.mpr ha, rng_iff.mpr hb, hl⟩))
theorem u_abs (hd : decode (mB y) pc = .ok (.invokestatic k, 3)) (hm : ml (mO y) k = some 1002) (ha : -2147483647 ≤ a ∧ a ≤ 2147483647) (hl : st.length ≤ 4) : Wx d y pc ls (vi a :: st) σ Q ↔ Wx d y (pc + 3) ls (vi (a.natAbs : Int) :: st) σ Q :=
  Wx_go ((s_eq hd rfl).trans (by dsimp only [stpI]; rw [hm]; dsimp only; rw [if_neg (by decide), if_neg (by decide), if_pos rfl]; exact if_pos ⟨ha.1, ha.2, hl⟩))
theorem u_throw {q : Nat} (hd : decode (mB y) pc = .ok (.new k, 3)) (ht : th y pc = some q) : Wx d y pc ls [] σ Q ↔ Q (.inr q) σ := Wx_fin ((s_eq hd rfl).trans (by dsimp only [stpI]; rw [ht]; rfl))
theorem u_iret (hd : decode (mB y) pc = .ok (.ireturn, 1)) (hr : mR y = some .int) : Wx d y pc ls [vi z] σ Q ↔ Q (.inl (some (vi z))) σ := Wx_fin ((s_eq hd rfl).trans (if_pos (Or.inl hr)))
theorem u_zret (hd : decode (mB y) pc = .ok (.ireturn, 1)) (hr : mR y = some .boolean) (hz : z = 0 ∨ z = 1) : Wx d y pc ls [vi z] σ Q ↔ Q (.inl (some (vi z))) σ := Wx_fin ((s_eq hd rfl).trans (if_pos (Or.inr ⟨hr, hz⟩)))
theorem u_vret (hd : decode (mB y) pc = .ok (.return_, 1)) (hr : mR y = none) : Wx d y pc ls [] σ Q ↔ Q (.inl none) σ := Wx_fin ((s_eq hd rfl).trans (if_pos hr))
end UR
theorem clr_i {i : Nat} {z : Int} : clr i (some (vi z)) = some (vi z) := by cases i <;> rfl
theorem clr_r {i g j : Nat} : clr i (some (vr g j)) = some (vr g j) := by cases i <;> rfl
theorem clr_n {i : Nat} : clr i none = none := by cases i <;> rfl
theorem clr_s {i : Nat} {x : Option Va} : clr (i + 1) x = x := rfl
