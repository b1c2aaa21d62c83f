/-! THE CELLS of the system: (c, j) for c below 8: chord c; (8, j): the class; (9, j): the reference; (10, j), (11, j): the rows of costToEnd and following; (12, _): the script; (13, j): the tables; (14, 0): the law's own array.
chord c: 0 the chord, 1 written, 2 its numbers, 3 its signs, 4 full, 5 its numbers, 6 its signs, 7 letters, 8 classes, 9 letterOfClass, 10 placed, 11 pupilSounds
class: 0 FiguredBass, 1 Key, 2 alterations, 3 chords, 4 Realisation, 5 its Move, 6 from, 7 to, 8 fromLetters, 9 toLetters, 10 costToEnd, 11 following, 12 reached, 13 reachedNext, 14 chosen, 15 Examination, 16 its Move, 17 from, 18 to, 19 fromLetters, 20 toLetters, 21 where, 22 kinds, 23 voices
reference: 0 the object, 1 bases, 2 sharps, 3 lows, 4 highs, 5 basses, 6 letters, 7 alterations, 8 many, 9 numbers, 10 signs, 11 row, 12 rowSigns, 13 toneLetters, 14 toneClasses, 15 letterOf, 16 sevenths, 17 thirds, 18 counts, 19 first, 20 second, 21 last, 22 onward, 23 reached, 24 laidSounds, 25 laidCosts, 26 pupils, 27 foundChord, 28 foundKind, 29 foundVoices, 30 from, 31 to -/
def rtC (j : Nat) : Nat := match j with
  | 0 => 5
  | 1 => 5
  | 4 => 5
  | _ => 0
def rnC (j : Nat) : Nat := match j with
  | 0 => 18
  | 1 => 3
  | 2 => 3
  | 3 => 3
  | 4 => 3
  | 5 => 3
  | 6 => 3
  | 7 => 4
  | 8 => 4
  | 9 => 12
  | 10 => 192
  | _ => 3
def rcC (j : Nat) : Nat := match j with
  | 0 => 3
  | _ => 2
def rfC (c j k : Nat) : Option (Nat × Nat) := match j with
  | 0 => (match k with
    | 0 => some (c, 1)
    | 1 => some (c, 4)
    | 2 => some (c, 7)
    | 3 => some (c, 8)
    | 4 => some (c, 9)
    | 5 => some (c, 10)
    | 6 => some (c, 11)
    | _ => none)
  | 1 => (match k with
    | 0 => some (c, 2)
    | 1 => some (c, 3)
    | _ => none)
  | 4 => (match k with
    | 0 => some (c, 5)
    | 1 => some (c, 6)
    | _ => none)
  | _ => none
def rt8 (j : Nat) : Nat := match j with
  | 0 => 5
  | 1 => 5
  | 3 => 2
  | 4 => 5
  | 5 => 5
  | 10 => 3
  | 11 => 3
  | 12 => 1
  | 13 => 1
  | 15 => 5
  | 16 => 5
  | _ => 0
def rn8 (j : Nat) : Nat := match j with
  | 0 => 5
  | 1 => 2
  | 2 => 7
  | 3 => 8
  | 4 => 7
  | 5 => 6
  | 6 => 4
  | 7 => 4
  | 8 => 4
  | 9 => 4
  | 10 => 8
  | 11 => 8
  | 12 => 64
  | 13 => 64
  | 14 => 8
  | 15 => 5
  | 16 => 6
  | 17 => 4
  | 18 => 4
  | 19 => 4
  | 20 => 4
  | _ => 240
def rc8 (j : Nat) : Nat := match j with
  | 0 => 0
  | 1 => 1
  | 4 => 5
  | 15 => 6
  | _ => 4
def rf8 (j k : Nat) : Option (Nat × Nat) := match j with
  | 0 => (match k with
    | 0 => some (8, 1)
    | 1 => some (8, 3)
    | 2 => some (8, 4)
    | 3 => some (8, 15)
    | _ => none)
  | 1 => (match k with
    | 0 => some (8, 2)
    | _ => none)
  | 3 => some (k, 0)
  | 4 => (match k with
    | 0 => some (8, 5)
    | 1 => some (8, 10)
    | 2 => some (8, 11)
    | 3 => some (8, 12)
    | 4 => some (8, 13)
    | 5 => some (8, 14)
    | _ => none)
  | 5 => (match k with
    | 0 => some (8, 6)
    | 1 => some (8, 7)
    | 2 => some (8, 8)
    | 3 => some (8, 9)
    | _ => none)
  | 10 => some (10, k)
  | 11 => some (11, k)
  | 15 => (match k with
    | 0 => some (8, 16)
    | 1 => some (8, 21)
    | 2 => some (8, 22)
    | 3 => some (8, 23)
    | _ => none)
  | 16 => (match k with
    | 0 => some (8, 17)
    | 1 => some (8, 18)
    | 2 => some (8, 19)
    | 3 => some (8, 20)
    | _ => none)
  | _ => none
def rt9 (j : Nat) : Nat := match j with
  | 0 => 5
  | 23 => 1
  | _ => 0
def rn9 (j : Nat) : Nat := match j with
  | 0 => 42
  | 1 => 7
  | 2 => 7
  | 3 => 3
  | 4 => 3
  | 5 => 8
  | 6 => 8
  | 7 => 8
  | 8 => 8
  | 9 => 24
  | 10 => 24
  | 11 => 4
  | 12 => 4
  | 13 => 4
  | 14 => 4
  | 15 => 96
  | 16 => 8
  | 17 => 8
  | 18 => 8
  | 19 => 3200
  | 20 => 3200
  | 21 => 3200
  | 22 => 3200
  | 23 => 3200
  | 24 => 32
  | 25 => 8
  | 26 => 24
  | 27 => 300
  | 28 => 300
  | 29 => 300
  | 30 => 4
  | _ => 4
def rf9 (k : Nat) : Option (Nat × Nat) := match k with
  | 1 => some (9, 1)
  | 2 => some (9, 2)
  | 3 => some (9, 3)
  | 4 => some (9, 4)
  | 8 => some (9, 5)
  | 9 => some (9, 6)
  | 10 => some (9, 7)
  | 11 => some (9, 8)
  | 12 => some (9, 9)
  | 13 => some (9, 10)
  | 15 => some (9, 11)
  | 16 => some (9, 12)
  | 18 => some (9, 13)
  | 19 => some (9, 14)
  | 23 => some (9, 15)
  | 24 => some (9, 16)
  | 25 => some (9, 17)
  | 26 => some (9, 18)
  | 27 => some (9, 19)
  | 28 => some (9, 20)
  | 29 => some (9, 21)
  | 30 => some (9, 22)
  | 31 => some (9, 23)
  | 33 => some (9, 24)
  | 34 => some (9, 25)
  | 35 => some (9, 26)
  | 37 => some (9, 27)
  | 38 => some (9, 28)
  | 39 => some (9, 29)
  | 40 => some (9, 30)
  | 41 => some (9, 31)
  | _ => none
/-- what kind of cell: 0 ints, 1 booleans, 2 chords, 3 rows of ints, 4 longs, 5 an object -/
def rt (g j : Nat) : Nat := if g < 8 then rtC j else if g = 8 then rt8 j else if g = 9 then rt9 j else if g = 14 then 4 else 0
/-- how long, how many fields -/
def rn (g j : Nat) : Nat := if g < 8 then rnC j else if g = 8 then rn8 j else if g = 9 then rn9 j else if g = 14 then 1 else 64
/-- of which class -/
def rc (g j : Nat) : Nat := if g < 8 then rcC j else if g = 8 then rc8 j else 7
/-- where a reference leads -/
def rf (g j k : Nat) : Option (Nat × Nat) := if g < 8 then rfC g j k else if g = 8 then rf8 j k else if g = 9 then (if j = 0 then rf9 k else none) else none
def rls (g n : Nat) : List (Nat × Nat) := (List.range n).map fun j => (g, j)
def RL : List (Nat × Nat) := rls 0 12 ++ rls 1 12 ++ rls 2 12 ++ rls 3 12 ++ rls 4 12 ++ rls 5 12 ++ rls 6 12 ++ rls 7 12 ++ rls 8 24 ++ rls 9 32 ++ rls 10 8 ++ rls 11 8 ++ rls 14 1
def inR (g j : Nat) : Bool := decide ((g, j) ∈ RL)
theorem rls_iff {g n a b : Nat} : (a, b) ∈ rls g n ↔ a = g ∧ b < n := by
  simp only [rls, List.mem_map, List.mem_range, Prod.mk.injEq]
  constructor
  · rintro ⟨j, h1, rfl, rfl⟩
    exact ⟨rfl, h1⟩
  · rintro ⟨rfl, h⟩
    exact ⟨b, h, rfl, rfl⟩
theorem inR_iff {g j : Nat} : inR g j = true ↔ ((g < 8 ∧ j < 12) ∨ (g = 8 ∧ j < 24) ∨ (g = 9 ∧ j < 32) ∨ (g = 10 ∧ j < 8) ∨ (g = 11 ∧ j < 8) ∨ (g = 14 ∧ j < 1)) := by
  simp only [inR, RL, decide_eq_true_iff, List.mem_append, rls_iff]
  omega
theorem rl_12 {g j : Nat} (h : inR g j = true) : g ≠ 12 := by
  have := inR_iff.mp h
  omega
theorem sL_lt (j : Nat) : sL j < 2 ^ 31 := by
  unfold sL
  split <;> decide
theorem rn_lt (g j : Nat) : rn g j < 2 ^ 31 := by
  unfold rn rnC rn8 rn9
  repeat' split
  all_goals decide
theorem rol_ok {g j : Nat} (h1 : rt g j = 5) (h2 : inR g j = true) : rc g j < nC ∧ rn g j = cn (rc g j) := by
  have hj := inR_iff.mp h2
  by_cases hg : g < 8
  · have e1 : rt g j = rtC j := if_pos hg
    have e2 : rc g j = rcC j := if_pos hg
    have e3 : rn g j = rnC j := if_pos hg
    rw [e1] at h1
    rw [e2, e3]
    have hj2 : j < 12 := by omega
    exact (show ∀ j, j < 12 → rtC j = 5 → rcC j < nC ∧ rnC j = cn (rcC j) by decide) j hj2 h1
  · rcases hj with ⟨h, -⟩ | ⟨rfl, hj⟩ | ⟨rfl, hj⟩ | ⟨rfl, hj⟩ | ⟨rfl, hj⟩ | ⟨rfl, hj⟩
    · exact absurd h hg
    · exact (show ∀ j, j < 24 → rt 8 j = 5 → rc 8 j < nC ∧ rn 8 j = cn (rc 8 j) by decide) j hj h1
    · exact (show ∀ j, j < 32 → rt 9 j = 5 → rc 9 j < nC ∧ rn 9 j = cn (rc 9 j) by decide) j hj h1
    · exact absurd h1 (show ¬ (0 : Nat) = 5 by decide)
    · exact absurd h1 (show ¬ (0 : Nat) = 5 by decide)
    · exact absurd h1 (show ¬ (4 : Nat) = 5 by decide)
