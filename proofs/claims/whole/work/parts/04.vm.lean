/-! THE LITTLE MACHINE: what the class and the reference do once they are made, over a memory of numbers.
A cell of the system is named by a group g and a place j in it; its content is a function of numbers: the elements of an array, the number fields of an object. References never change once the constructors are through: they are read off tables. -/
abbrev Va : Type := Int ⊕ (Nat × Nat) ⊕ Int
abbrev vi (z : Int) : Va := .inl z
abbrev vr (g j : Nat) : Va := .inr (.inl (g, j))
abbrev vl (z : Int) : Va := .inr (.inr z)
abbrev Sg : Type := Nat → Nat → Nat → Int
abbrev Rs : Type := Option Va ⊕ Nat
abbrev Lo : Type := List (Option Va)
/-- one number of the memory is written -/
def up (σ : Sg) (g j k : Nat) (z : Int) : Sg := fun g' j' k' => if g' = g ∧ j' = j ∧ k' = k then z else σ g' j' k'
def i3 (z : Int) : Int32 := Int32.ofInt z
def i6 (z : Int) : Int64 := Int64.ofInt z
/-- a long -/
def isLn (v : Va) : Bool := match v with
  | .inr (.inr _) => true
  | _ => false
def nlg (as : List Va) : Bool := as.all fun v => !isLn v
/-- a local is read -/
def lget : Lo → Nat → Option Va
  | [], _ => none
  | x :: _, 0 => x
  | _ :: t, i + 1 => lget t i
def clr : Nat → Option Va → Option Va
  | 0, some (.inr (.inr _)) => none
  | _, x => x
/-- a local of one word is written: a long whose second word it was is gone -/
def lset : Lo → Nat → Va → Lo
  | [], _, _ => []
  | _ :: t, 0, v => some v :: t
  | x :: t, i + 1, v => clr i x :: lset t i v
/-- a long in a local: two words -/
def lsetL (ls : Lo) (i : Nat) (v : Va) : Lo := ((lset ls i v).set (i + 1) none)
/-- what one instruction does: goes on; ends; calls a method and goes on behind it -/
abbrev Ac : Type := (Nat × Lo × List Va × Sg) ⊕ (Rs × Sg) ⊕ (Nat × List Va × Nat × Lo × List Va × Sg)
def go (pc : Nat) (ls : Lo) (st : List Va) (σ : Sg) : Option Ac := some (.inl (pc, ls, st, σ))
def fin (r : Rs) (σ : Sg) : Option Ac := some (.inr (.inl (r, σ)))
def cal (y : Nat) (as : List Va) (pc : Nat) (ls : Lo) (st : List Va) (σ : Sg) : Option Ac := some (.inr (.inr (y, as, pc, ls, st, σ)))
def brn (c : Prop) [Decidable c] (pc : Nat) (off : Int) (ls : Lo) (st : List Va) (σ : Sg) : Option Ac := if 0 ≤ (pc : Int) + off then some (.inl (if c then ((pc : Int) + off).toNat else pc + 3, ls, st, σ)) else none
def ldi (ls : Lo) (k pc : Nat) (st : List Va) (σ : Sg) : Option Ac := match lget ls k with
  | some (.inl z) => go pc ls (vi z :: st) σ
  | _ => none
def lda (ls : Lo) (k pc : Nat) (st : List Va) (σ : Sg) : Option Ac := match lget ls k with
  | some (.inr (.inl q)) => go pc ls (.inr (.inl q) :: st) σ
  | _ => none
def ldl (ls : Lo) (k pc : Nat) (st : List Va) (σ : Sg) : Option Ac := match lget ls k with
  | some (.inr (.inr z)) => go pc ls (vl z :: st) σ
  | _ => none
def sti (ls : Lo) (k nL pc : Nat) (st : List Va) (σ : Sg) : Option Ac := match st with
  | .inl z :: st => if k < nL then go pc (lset ls k (vi z)) st σ else none
  | _ => none
def sta (ls : Lo) (k nL pc : Nat) (st : List Va) (σ : Sg) : Option Ac := match st with
  | .inr (.inl q) :: st => if k < nL then go pc (lset ls k (.inr (.inl q))) st σ else none
  | _ => none
def stl (ls : Lo) (k nL pc : Nat) (st : List Va) (σ : Sg) : Option Ac := match st with
  | .inr (.inr z) :: st => if k + 1 < nL then go pc (lsetL ls k (vl z)) st σ else none
  | _ => none
def cnb (c : Jvm.ClassFile.Cond) (x y : Int32) : Bool := match c with
  | .eq => decide (x = y)
  | .ne => decide (¬ x = y)
  | .lt => decide (x < y)
  | .ge => decide (y ≤ x)
  | .gt => decide (y < x)
  | .le => decide (x ≤ y)
/-- a field of an object: a reference that never changes, or a number -/
def fvv (σ : Sg) (g j k : Nat) : Va := match rf g j k with
  | some q => .inr (.inl q)
  | none => vi (σ g j k)
def rng (z : Int) : Bool := decide (-2147483648 ≤ z) && decide (z ≤ 2147483647)
/-- an element of an array of ints: of a table (13), of the script (12: its elements at 0, their number at 1), of the system -/
def ial (σ : Sg) (g j : Nat) (z : Int) : Option Int :=
  if g = 13 then (if 0 ≤ z ∧ z < sL j ∧ j < nS then some (sV j z.toNat) else none)
  else if g = 12 then (if 0 ≤ z ∧ z < σ 12 1 0 ∧ j = 0 then some (σ 12 0 z.toNat) else none)
  else if rt g j = 0 ∧ inR g j = true ∧ 0 ≤ z ∧ z < rn g j then some (σ g j z.toNat) else none
def aln (σ : Sg) (g j : Nat) : Option Int :=
  if g = 13 then (if j < nS then some (sL j) else none)
  else if g = 12 then (if j = 0 then some (σ 12 1 0) else none)
  else if rt g j ≤ 1 ∧ inR g j = true then some (rn g j) else none
def okl (i : Instr) (len : Nat) : Bool := match i with
  | .bipush _ | .ldc _ | .iload _ | .aload _ | .lload _ | .istore _ | .astore _ | .lstore _ => len == 2
  | .sipush _ | .ldc2_w _ | .iinc _ _ | .ifCond _ _ | .if_icmp _ _ | .goto _ | .getfield _ | .putfield _ | .getstatic _ | .invokevirtual _ | .invokestatic _ | .new _ => len == 3
  | .tableswitch _ _ _ _ | .lookupswitch _ _ => true
  | _ => len == 1
/-- the law's helpers: where its code calls them -/
def hl (k : Nat) : Option Nat := match k with
  | 66 => some 130
  | 75 => some 131
  | 79 => some 132
  | 83 => some 133
  | 87 => some 134
  | 91 => some 135
  | 95 => some 136
  | 98 => some 137
  | 102 => some 138
  | 105 => some 139
  | 108 => some 140
  | 112 => some 141
  | 115 => some 142
  | _ => none
/-- what a helper answers where the call that it guards throws: exception, end of the guarded code, answer -/
def hT (y : Nat) : List (Nat × Nat × Nat) := match y with
  | 130 => [(1, 6, 1)]
  | 131 => [(1, 5, 1)]
  | 132 => [(1, 14, 1)]
  | 133 => [(1, 12, 1), (2, 12, 2)]
  | 134 => [(1, 10, 1), (2, 10, 2), (3, 10, 3)]
  | 135 => [(1, 9, 1), (2, 9, 2)]
  | 136 => [(1, 12, 1), (2, 12, 2), (3, 12, 3)]
  | 137 => [(2, 8, 1)]
  | 138 => [(1, 10, 1), (2, 10, 2)]
  | 139 => [(1, 9, 1), (2, 9, 2)]
  | 140 => [(1, 7, 1)]
  | 141 => [(2, 8, 1)]
  | 142 => [(3, 10, 1), (1, 10, 2)]
  | _ => []
def hnd (y pc q : Nat) : Option Nat := ((hT y).find? fun r => r.1 == q && decide (pc < r.2.1)).map fun r => r.2.2
theorem hnd_lt {y pc q : Nat} (h : y < 130) : hnd y pc q = none := by
  have e : hT y = [] := by
    unfold hT
    split <;> first | omega | rfl
  unfold hnd
  rw [e]
  rfl
theorem hl_ge {k y : Nat} (h : hl k = some y) : 130 ≤ y ∧ y < 143 := by
  unfold hl at h
  split at h <;> first | (cases h; omega) | cases h
def stpI (y pc len : Nat) (i : Instr) (ls : Lo) (st : List Va) (σ : Sg) : Option Ac :=
  match i with
  | .iconst n => go (pc + 1) ls (vi n :: st) σ
  | .bipush n => if -128 ≤ n ∧ n ≤ 127 then go (pc + 2) ls (vi n :: st) σ else none
  | .sipush n => if -32768 ≤ n ∧ n ≤ 32767 then go (pc + 3) ls (vi n :: st) σ else none
  | .ldc k => match kI (mO y) k with
    | some z => go (pc + 2) ls (vi z :: st) σ
    | none => none
  | .ldc2_w k => match kL (mO y) k with
    | some z => go (pc + 3) ls (vl z :: st) σ
    | none => none
  | .iload k => ldi ls k (pc + 2) st σ
  | .iload_n k => ldi ls k.val (pc + 1) st σ
  | .aload k => lda ls k (pc + 2) st σ
  | .aload_n k => lda ls k.val (pc + 1) st σ
  | .lload k => ldl ls k (pc + 2) st σ
  | .lload_n k => ldl ls k.val (pc + 1) st σ
  | .istore k => sti ls k (mL y) (pc + 2) st σ
  | .istore_n k => sti ls k.val (mL y) (pc + 1) st σ
  | .astore k => sta ls k (mL y) (pc + 2) st σ
  | .astore_n k => sta ls k.val (mL y) (pc + 1) st σ
  | .lstore k => stl ls k (mL y) (pc + 2) st σ
  | .lstore_n k => stl ls k.val (mL y) (pc + 1) st σ
  | .iinc k n => match lget ls k with
    | some (.inl z) => if k < mL y then go (pc + 3) (lset ls k (vi (z + n))) st σ else none
    | _ => none
  | .iadd => match st with
    | .inl b :: .inl a :: st => go (pc + 1) ls (vi (a + b) :: st) σ
    | _ => none
  | .isub => match st with
    | .inl b :: .inl a :: st => go (pc + 1) ls (vi (a - b) :: st) σ
    | _ => none
  | .imul => match st with
    | .inl b :: .inl a :: st => go (pc + 1) ls (vi (a * b) :: st) σ
    | _ => none
  | .ineg => match st with
    | .inl a :: st => go (pc + 1) ls (vi (-a) :: st) σ
    | _ => none
  | .idiv => match st with
    | .inl b :: .inl a :: st => if rng a = true ∧ 0 < b ∧ b ≤ 2147483647 then go (pc + 1) ls (vi (Int.tdiv a b) :: st) σ else none
    | _ => none
  | .irem => match st with
    | .inl b :: .inl a :: st => if rng a = true ∧ 0 < b ∧ b ≤ 2147483647 then go (pc + 1) ls (vi (Int.tmod a b) :: st) σ else none
    | _ => none
  | .iand => match st with
    | .inl b :: .inl a :: st => go (pc + 1) ls (vi (i3 a &&& i3 b).toInt :: st) σ
    | _ => none
  | .ior => match st with
    | .inl b :: .inl a :: st => go (pc + 1) ls (vi (i3 a ||| i3 b).toInt :: st) σ
    | _ => none
  | .ixor => match st with
    | .inl b :: .inl a :: st => go (pc + 1) ls (vi (i3 a ^^^ i3 b).toInt :: st) σ
    | _ => none
  | .ishl => match st with
    | .inl b :: .inl a :: st => go (pc + 1) ls (vi (i3 a <<< (i3 b &&& 31)).toInt :: st) σ
    | _ => none
  | .i2l => match st with
    | .inl a :: st => if rng a = true then go (pc + 1) ls (vl a :: st) σ else none
    | _ => none
  | .l2i => match st with
    | .inr (.inr a) :: st => go (pc + 1) ls (vi a :: st) σ
    | _ => none
  | .ladd => match st with
    | .inr (.inr b) :: .inr (.inr a) :: st => go (pc + 1) ls (vl (a + b) :: st) σ
    | _ => none
  | .lmul => match st with
    | .inr (.inr b) :: .inr (.inr a) :: st => go (pc + 1) ls (vl (a * b) :: st) σ
    | _ => none
  | .lcmp => match st with
    | .inr (.inr b) :: .inr (.inr a) :: st => go (pc + 1) ls (vi (lg_cmp (i6 a) (i6 b)).toInt :: st) σ
    | _ => none
  | .dup => match st with
    | .inl a :: st => go (pc + 1) ls (vi a :: vi a :: st) σ
    | .inr (.inl q) :: st => go (pc + 1) ls (.inr (.inl q) :: .inr (.inl q) :: st) σ
    | _ => none
  | .dup2 => match st with
    | .inl b :: .inr (.inl q) :: st => go (pc + 1) ls (vi b :: .inr (.inl q) :: vi b :: .inr (.inl q) :: st) σ
    | _ => none
  | .dup_x1 => match st with
    | .inl b :: .inr (.inl q) :: st => go (pc + 1) ls (vi b :: .inr (.inl q) :: vi b :: st) σ
    | _ => none
  | .dup_x2 => match st with
    | .inl b :: .inl c :: .inr (.inl q) :: st => go (pc + 1) ls (vi b :: vi c :: .inr (.inl q) :: vi b :: st) σ
    | _ => none
  | .pop => match st with
    | .inl _ :: st => go (pc + 1) ls st σ
    | _ => none
  | .ifCond c off => match st with
    | .inl a :: st => brn (cnb c (i3 a) 0 = true) pc off ls st σ
    | _ => none
  | .if_icmp c off => match st with
    | .inl b :: .inl a :: st => brn (cnb c (i3 a) (i3 b) = true) pc off ls st σ
    | _ => none
  | .goto off => if 0 ≤ (pc : Int) + off then go ((pc : Int) + off).toNat ls st σ else none
  | .tableswitch d lo hi offs => match st with
    | .inl a :: st => if (i3 a).toInt < lo ∨ hi < (i3 a).toInt then (if 0 ≤ (pc : Int) + d then go ((pc : Int) + d).toNat ls st σ else none) else (match offs[((i3 a).toInt - lo).toNat]? with
      | some o => if 0 ≤ (pc : Int) + o then go ((pc : Int) + o).toNat ls st σ else none
      | none => none)
    | _ => none
  | .lookupswitch d ps => match st with
    | .inl a :: st => if (ps.toList.zip (ps.toList.drop 1)).all (fun (x, nx) => x.1 < nx.1) = true ∧ 0 ≤ (pc : Int) + Op.lookupswitch.offset ps.toList d (i3 a).toInt then go ((pc : Int) + Op.lookupswitch.offset ps.toList d (i3 a).toInt).toNat ls st σ else none
    | _ => none
  | .getfield k => match st, fl (mO y) k with
    | .inr (.inl q) :: st, some w => if rt q.1 q.2 = 5 ∧ inR q.1 q.2 = true ∧ rc q.1 q.2 = w.1 then go (pc + 3) ls (fvv σ q.1 q.2 w.2 :: st) σ else none
    | _, _ => none
  | .putfield k => match st, fl (mO y) k with
    | .inl z :: .inr (.inl q) :: st, some w => if rt q.1 q.2 = 5 ∧ inR q.1 q.2 = true ∧ rc q.1 q.2 = w.1 ∧ rf q.1 q.2 w.2 = none ∧ (ct w.1 w.2 = .int ∨ (ct w.1 w.2 = .boolean ∧ (z = 0 ∨ z = 1))) ∧ (cF w.1 w.2).2.2.2 = false then go (pc + 3) ls st (up σ q.1 q.2 w.2 z) else none
    | _, _ => none
  | .getstatic k => match sl (mO y) k with
    | some j => go (pc + 3) ls (vr 13 j :: st) σ
    | none => none
  | .iaload => match st with
    | .inl z :: .inr (.inl q) :: st => (match ial σ q.1 q.2 z with
      | some x => go (pc + 1) ls (vi x :: st) σ
      | none => none)
    | _ => none
  | .iastore => match st with
    | .inl x :: .inl z :: .inr (.inl q) :: st => if rt q.1 q.2 = 0 ∧ inR q.1 q.2 = true ∧ 0 ≤ z ∧ z < rn q.1 q.2 then go (pc + 1) ls st (up σ q.1 q.2 z.toNat x) else none
    | _ => none
  | .baload => match st with
    | .inl z :: .inr (.inl q) :: st => if rt q.1 q.2 = 1 ∧ inR q.1 q.2 = true ∧ 0 ≤ z ∧ z < rn q.1 q.2 then go (pc + 1) ls (vi (σ q.1 q.2 z.toNat) :: st) σ else none
    | _ => none
  | .bastore => match st with
    | .inl x :: .inl z :: .inr (.inl q) :: st => if rt q.1 q.2 = 1 ∧ inR q.1 q.2 = true ∧ 0 ≤ z ∧ z < rn q.1 q.2 ∧ (x = 0 ∨ x = 1) then go (pc + 1) ls st (up σ q.1 q.2 z.toNat x) else none
    | _ => none
  | .aaload => match st with
    | .inl z :: .inr (.inl q) :: st => (match rf q.1 q.2 z.toNat with
      | some w => if (rt q.1 q.2 = 2 ∨ rt q.1 q.2 = 3) ∧ inR q.1 q.2 = true ∧ 0 ≤ z ∧ z < rn q.1 q.2 then go (pc + 1) ls (.inr (.inl w) :: st) σ else none
      | none => none)
    | _ => none
  | .laload => match st with
    | .inl z :: .inr (.inl q) :: st => if rt q.1 q.2 = 4 ∧ inR q.1 q.2 = true ∧ 0 ≤ z ∧ z < rn q.1 q.2 then go (pc + 1) ls (vl (σ q.1 q.2 z.toNat) :: st) σ else none
    | _ => none
  | .lastore => match st with
    | .inr (.inr x) :: .inl z :: .inr (.inl q) :: st => if rt q.1 q.2 = 4 ∧ inR q.1 q.2 = true ∧ 0 ≤ z ∧ z < rn q.1 q.2 then go (pc + 1) ls st (up σ q.1 q.2 z.toNat x) else none
    | _ => none
  | .arraylength => match st with
    | .inr (.inl q) :: st => (match aln σ q.1 q.2 with
      | some x => go (pc + 1) ls (vi x :: st) σ
      | none => none)
    | _ => none
  | .invokevirtual k => match ml (mO y) k with
    | some y' => (match (st.drop (mN y')) with
      | .inr (.inl q) :: st' => if rt q.1 q.2 = 5 ∧ inR q.1 q.2 = true ∧ rc q.1 q.2 = mO y' ∧ st'.length ≤ 4 ∧ mS y' = false ∧ mN y' ≤ st.length ∧ nlg (st.take (mN y')) = true then cal y' (.inr (.inl q) :: (st.take (mN y')).reverse) (pc + 3) ls st' σ else none
      | _ => none)
    | none => none
  | .invokestatic k => match ml (mO y) k with
    | some y' => if y' = 1000 then (match st with
        | .inl b :: .inl a :: st => if rng a = true ∧ rng b = true ∧ st.length ≤ 4 then go (pc + 3) ls (vi (max a b) :: st) σ else none
        | _ => none)
      else if y' = 1001 then (match st with
        | .inl b :: .inl a :: st => if rng a = true ∧ rng b = true ∧ st.length ≤ 4 then go (pc + 3) ls (vi (min a b) :: st) σ else none
        | _ => none)
      else if y' = 1002 then (match st with
        | .inl a :: st => if -2147483647 ≤ a ∧ a ≤ 2147483647 ∧ st.length ≤ 4 then go (pc + 3) ls (vi (a.natAbs : Int) :: st) σ else none
        | _ => none)
      else if mS y' = true ∧ mN y' ≤ st.length ∧ (st.drop (mN y')).length ≤ 4 ∧ nlg (st.take (mN y')) = true then cal y' (st.take (mN y')).reverse (pc + 3) ls (st.drop (mN y')) σ else none
    | none => if y = 129 then (match hl k with
      | some y' => if mN y' ≤ st.length ∧ (st.drop (mN y')).length ≤ 4 ∧ nlg (st.take (mN y')) = true then cal y' (st.take (mN y')).reverse (pc + 3) ls (st.drop (mN y')) σ else none
      | none => none) else none
  | .new _ => match st with
    | [] => (match th y pc with
      | some e => fin (.inr e) σ
      | none => none)
    | _ => none
  | .ireturn => match st with
    | [.inl z] => if mR y = some .int ∨ (mR y = some .boolean ∧ (z = 0 ∨ z = 1)) then fin (.inl (some (vi z))) σ else none
    | _ => none
  | .return_ => match st with
    | [] => if mR y = none then fin (.inl none) σ else none
    | _ => none
  | _ => none
def stp (y pc : Nat) (ls : Lo) (st : List Va) (σ : Sg) : Option Ac := match decode (mB y) pc with
  | .ok (i, len) => if okl i len = true then stpI y pc len i ls st σ else none
  | _ => none
/-- a method's locals as it begins -/
def ini (y : Nat) (as : List Va) : Lo := as.map some ++ List.replicate (mL y - as.length) none
/-- the run: n steps at most, d frames at most below this one -/
def ex : Nat → Nat → Nat → Nat → Lo → List Va → Sg → Option (Rs × Sg)
  | 0, _, _, _, _, _, _ => none
  | n + 1, d, y, pc, ls, st, σ => match stp y pc ls st σ with
    | none => none
    | some (.inl (pc', ls', st', σ')) => ex n d y pc' ls' st' σ'
    | some (.inr (.inl r)) => some r
    | some (.inr (.inr (y', as, pc', ls', st', σ'))) => match d with
      | 0 => none
      | d' + 1 => match ex n d' y' 0 (ini y' as) [] σ' with
        | none => none
        | some (.inl v, σ2) => ex n (d' + 1) y pc' ls' (v.toList ++ st') σ2
        | some (.inr q, σ2) => (match hnd y pc q with
          | some r => some (.inl (some (vi r)), up σ2 15 0 0 (σ2 15 0 0 + 1))
          | none => some (.inr q, σ2))
