/-! A SECOND LITTLE MACHINE, for the constructors: cells by the order in which they are made; cell k lies at the heap's old size + k -/
abbrev V2 : Type := Option (Int ⊕ Nat)
abbrev Ce : Type := Nat × Nat × List (Nat × V2)
abbrev Me : Type := List Ce
/-- a cell: (kind as rt says, length or class, what was written) -/
def dfl (c : Ce) (k : Nat) : V2 := if c.1 = 5 then (if ct c.2.1 k = .int ∨ ct c.2.1 k = .boolean then some (.inl 0) else none) else if c.1 = 2 ∨ c.1 = 3 then none else some (.inl 0)
def rd (c : Ce) (k : Nat) : V2 := match c.2.2.find? (fun q => q.1 == k) with
  | some q => q.2
  | none => dfl c k
def wr (c : Ce) (k : Nat) (v : V2) : Ce := (c.1, c.2.1, (k, v) :: c.2.2)
def sz2 (c : Ce) : Nat := if c.1 = 5 then cn c.2.1 else c.2.1
def ss (M : Me) : Nat := (M.map sz2).sum
abbrev A2 : Type := (Nat × Lo × List Va × Me) ⊕ Me ⊕ (Nat × Nat × Nat × Lo × List Va × Me)
def at2 (t : ArrayType) : Option Nat := match t with
  | .int => some 0
  | .boolean => some 1
  | .long => some 4
  | _ => none
def rows2 (a b n : Nat) : Me := (3, a, (List.range a).map fun j => (j, some (.inr (n + 1 + j)))) :: List.replicate a (0, b, [])
def s2 (o pc : Nat) (i : Instr) (len : Nat) (ls : Lo) (st : List Va) (M : Me) : Option A2 := match i with
  | .aload_n k => match lget ls k with
    | some (.inr (.inl q)) => if len = 1 then some (.inl (pc + 1, ls, .inr (.inl q) :: st, M)) else none
    | _ => none
  | .iload_n k => match lget ls k with
    | some (.inl z) => if len = 1 then some (.inl (pc + 1, ls, vi z :: st, M)) else none
    | _ => none
  | .iconst z => if len = 1 then some (.inl (pc + 1, ls, vi z :: st, M)) else none
  | .bipush z => if len = 2 ∧ -128 ≤ z ∧ z ≤ 127 then some (.inl (pc + 2, ls, vi z :: st, M)) else none
  | .sipush z => if len = 3 ∧ -32768 ≤ z ∧ z ≤ 32767 then some (.inl (pc + 3, ls, vi z :: st, M)) else none
  | .dup => match st with
    | .inr (.inl q) :: st => if len = 1 then some (.inl (pc + 1, ls, .inr (.inl q) :: .inr (.inl q) :: st, M)) else none
    | _ => none
  | .istore_n k => match st with
    | .inl z :: st => if len = 1 ∧ k < kLo o then some (.inl (pc + 1, lset ls k (vi z), st, M)) else none
    | _ => none
  | .iinc k w => match lget ls k with
    | some (.inl z) => if len = 3 ∧ k < kLo o then some (.inl (pc + 3, lset ls k (vi (z + w)), st, M)) else none
    | _ => none
  | .if_icmp .ge off => match st with
    | .inl b :: .inl a :: st => if len = 3 ∧ 0 ≤ (pc : Int) + off then (if i3 b ≤ i3 a then some (.inl (((pc : Int) + off).toNat, ls, st, M)) else some (.inl (pc + 3, ls, st, M))) else none
    | _ => none
  | .goto off => if len = 3 ∧ 0 ≤ (pc : Int) + off then some (.inl (((pc : Int) + off).toNat, ls, st, M)) else none
  | .newarray t => match st, at2 t with
    | .inl z :: st, some w => if len = 2 ∧ 0 ≤ z ∧ z ≤ 4000 then some (.inl (pc + 2, ls, vr 20 M.length :: st, M ++ [(w, z.toNat, [])])) else none
    | _, _ => none
  | .anewarray k => match st with
    | .inl z :: st => if len = 3 ∧ o = 0 ∧ k = 16 ∧ 0 ≤ z ∧ z ≤ 4000 then some (.inl (pc + 3, ls, vr 20 M.length :: st, M ++ [(2, z.toNat, [])])) else none
    | _ => none
  | .multianewarray k n => match st with
    | .inl b :: .inl a :: st => if len = 4 ∧ n = 2 ∧ o = 5 ∧ k = 20 ∧ (0 ≤ a ∧ a ≤ 100) ∧ (0 ≤ b ∧ b ≤ 100) then some (.inl (pc + 4, ls, vr 20 M.length :: st, M ++ rows2 a.toNat b.toNat M.length)) else none
    | _ => none
  | .new k => match knw o k with
    | some w => if len = 3 then some (.inl (pc + 3, ls, vr 20 M.length :: st, M ++ [(5, w, [])])) else none
    | none => none
  | .putfield k => match st, kfl o k with
    | .inl z :: .inr (.inl q) :: st, some f => (match M[q.2]? with
      | some c => if len = 3 ∧ q.1 = 20 ∧ c.1 = 5 ∧ c.2.1 = o ∧ ct o f = .int ∧ (cF o f).2.2.2 = false then some (.inl (pc + 3, ls, st, M.set q.2 (wr c f (some (.inl z))))) else none
      | none => none)
    | .inr (.inl v) :: .inr (.inl q) :: st, some f => (match M[q.2]? with
      | some c => if len = 3 ∧ v.1 = 20 ∧ q.1 = 20 ∧ c.1 = 5 ∧ c.2.1 = o ∧ (ct o f).isReference = true ∧ (cF o f).2.2.2 = true then some (.inl (pc + 3, ls, st, M.set q.2 (wr c f (some (.inr v.2))))) else none
      | none => none)
    | _, _ => none
  | .getfield k => match st, kfl o k with
    | .inr (.inl q) :: st, some f => (match M[q.2]? with
      | some c => (match rd c f with
        | some (.inr v) => if len = 3 ∧ q.1 = 20 ∧ c.1 = 5 ∧ c.2.1 = o then some (.inl (pc + 3, ls, vr 20 v :: st, M)) else none
        | _ => none)
      | none => none)
    | _, _ => none
  | .iastore => match st with
    | .inl x :: .inl z :: .inr (.inl q) :: st => (match M[q.2]? with
      | some c => if len = 1 ∧ q.1 = 20 ∧ c.1 = 0 ∧ 0 ≤ z ∧ z < c.2.1 ∧ c.2.1 ≤ 4000 then some (.inl (pc + 1, ls, st, M.set q.2 (wr c z.toNat (some (.inl x))))) else none
      | none => none)
    | _ => none
  | .aastore => match st with
    | .inr (.inl v) :: .inl z :: .inr (.inl q) :: st => (match M[q.2]?, M[v.2]? with
      | some c, some w => if len = 1 ∧ q.1 = 20 ∧ v.1 = 20 ∧ c.1 = 2 ∧ w.1 = 5 ∧ w.2.1 = 3 ∧ 0 ≤ z ∧ z < c.2.1 ∧ c.2.1 ≤ 4000 then some (.inl (pc + 1, ls, st, M.set q.2 (wr c z.toNat (some (.inr v.2))))) else none
      | _, _ => none)
    | _ => none
  | .invokespecial k => match st with
    | .inr (.inl q) :: st => if len = 3 ∧ st.length ≤ 4 then (match kob o k with
      | some _ => some (.inl (pc + 3, ls, st, M))
      | none => (match kin o k with
        | some w => if q.1 = 20 then some (.inr (.inr (w, q.2, pc + 3, ls, st, M))) else none
        | none => none)) else none
    | _ => none
  | .return_ => match st with
    | [] => if len = 1 then some (.inr (.inl M)) else none
    | _ => none
  | _ => none
def ex2 : Nat → Nat → Nat → Nat → Lo → List Va → Me → Option Me
  | 0, _, _, _, _, _, _ => none
  | n + 1, d, o, pc, ls, st, M => match kI2 o pc with
    | none => none
    | some (i, len) => match s2 o pc i len ls st M with
      | none => none
      | some (.inl (pc', ls', st', M')) => ex2 n d o pc' ls' st' M'
      | some (.inr (.inl M')) => some M'
      | some (.inr (.inr (o', j, pc', ls', st', M'))) => match d with
        | 0 => none
        | d' + 1 => match ex2 n d' o' 0 (some (vr 20 j) :: List.replicate (kLo o' - 1) none) [] M' with
          | none => none
          | some M2 => ex2 n (d' + 1) o pc' ls' st' M2
