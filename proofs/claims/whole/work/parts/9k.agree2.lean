/-! CLASS AND REFERENCE AGREE, on: note, cost, realise, faults, fault -/
section AH
variable {d : Nat} {σ : Sg} {f mi : Int} {n : Nat} {C : Nat → Cho} {W : Option (Nat → Int)} {L : List Flt} {a b k v m s l o : Int}
theorem ld_at {w : Nat → Int} (h : CI σ f mi n C (some w) L) {i : Nat} (hi : i < n) : sIn (sdP f (C i) (w i)) := by
  have hn := h.2.2.1
  obtain ⟨q1, q2, q3, q4⟩ := h.2.2.2.2.2.2.2.2 i hi
  have hI := h.2.2.2.2.2.1 i (by omega)
  have hB : ChB σ i f (C i) := by
    rcases hI.2.2.2.2.2 with q | q
    · omega
    · exact q
  exact sdP_in (by have := hB.1; omega) ⟨q3, q4⟩
theorem shr_in {w : Nat → Int} (h : CI σ f mi n C (some w) L) {i : Nat} (hi : i < n) : r32 (shr f mi C w i) := by
  have f1 := fP_in f mi C i (w i)
  unfold shr r32
  split
  · omega
  · have d1 := dst_in (ld_at h (i := i - 1) (by omega)) (ld_at h hi)
    have e : dP f C (i - 1) (w (i - 1)) (w i) = dst (sdP f (C (i - 1)) (w (i - 1))) (sdP f (C i) (w i)) := by
      show dst (sdP f (C (i - 1)) (w (i - 1))) (sdP f (C (i - 1 + 1)) (w i)) = _
      rw [show i - 1 + 1 = i by omega]
    rw [e]
    omega
theorem ag_note (h : CI σ f mi n C W L) (hL : bdL L) (rb : r32 b) (rv : r32 v) : AgV d 8 [vr 8 0, vi b, vi v] 118 [vr 9 0, vi b, vi v] 138 5 (some 0) σ f mi n C W L := by
  have hn := h.2.2.1
  have ref : ((b < 0 ∨ (n : Int) ≤ b) ∨ v < 0 ∨ 3 < v) → ∀ σ1, RI σ1 f mi n C W L → Wm (d + 7) 118 [vr 9 0, vi b, vi v] σ1 (fun r σ2 => r = .inl ((some 0 : Option Int).map vi) ∧ RI σ2 f mi n C W L ∧ σ2 9 0 0 = ((1 : Nat) : Int)) := fun hx σ1 h1 => q_noteV (d := d + 6) h1 hx rb rv (fun σ2 h2 t2 => ⟨rfl, h2, t2⟩)
  by_cases g1 : v < 0 ∨ 4 ≤ v
  · exact Or.inr ⟨1, 1, rfl, by omega, (p_noteV (d := d + 5) g1 rv).iff.mpr ⟨rfl, h⟩, ref (by omega)⟩
  by_cases g2 : b < 0 ∨ (n : Int) ≤ b
  · exact Or.inr ⟨1, 1, rfl, by omega, (p_noteC (d := d + 5) h (by omega) g2 rb).iff.mpr ⟨rfl, h⟩, ref (by omega)⟩
  obtain ⟨i, rfl⟩ : ∃ i : Nat, b = (i : Int) := ⟨b.toNat, by omega⟩
  cases W with
  | none => exact Or.inr ⟨2, 2, rfl, by omega, (p_noteL (d := d + 5) h (by omega) (by omega)).iff.mpr ⟨rfl, h⟩, fun σ1 h1 => q_noteL (d := d + 6) h1 (by omega) (by omega) (fun σ2 h2 t2 => ⟨rfl, h2, t2⟩)⟩
  | some w =>
    have hs := ld_at h (i := i) (by omega) v (by omega) (by omega)
    exact Or.inl ⟨some (sdP f (C i) (w i) v), f, mi, n, C, some w, L, ⟨rfl, fun z hz => is_v (by unfold r32; omega) hz⟩, hL, (p_note (d := d + 4) sml h (by omega) (by omega)).iff.mpr ⟨rfl, h⟩, fun σ1 h1 => q_note (d := d + 6) h1 (by omega) (by omega) (fun σ2 h2 t2 => ⟨rfl, h2, t2⟩)⟩
theorem ag_cost (h : CI σ f mi n C W L) (hL : bdL L) (rb : r32 b) : AgV d 9 [vr 8 0, vi b] 119 [vr 9 0, vi b] 139 4 (some 0) σ f mi n C W L := by
  have hn := h.2.2.1
  by_cases g2 : b < 0 ∨ (n : Int) ≤ b
  · exact Or.inr ⟨1, 1, rfl, by omega, (p_costC (d := d + 5) h g2 rb).iff.mpr ⟨rfl, h⟩, fun σ1 h1 => q_costV (d := d + 6) h1 g2 rb (fun σ2 h2 t2 => ⟨rfl, h2, t2⟩)⟩
  obtain ⟨i, rfl⟩ : ∃ i : Nat, b = (i : Int) := ⟨b.toNat, by omega⟩
  cases W with
  | none => exact Or.inr ⟨2, 2, rfl, by omega, (p_costL (d := d + 5) h (by omega)).iff.mpr ⟨rfl, h⟩, fun σ1 h1 => q_costL (d := d + 6) h1 (by omega) (fun σ2 h2 t2 => ⟨rfl, h2, t2⟩)⟩
  | some w => exact Or.inl ⟨some (shr f mi C w i), f, mi, n, C, some w, L, ⟨rfl, fun z hz => is_v (shr_in h (by omega)) hz⟩, hL, p_cost (d := d + 2) sml h (by omega) (fun σ1 h1 => ⟨rfl, h1⟩), fun σ1 h1 => q_cost (d := d + 6) h1 (by omega) (fun σ2 h2 t2 => ⟨rfl, h2, t2⟩)⟩
theorem fuR_le {N : Nat → Nat} {kp : Nat → Int → Int → Int} : ∀ (r i : Nat), fuR N kp r i ≤ i + r
  | 0, i => Nat.le_refl _
  | r + 1, i => by
    rw [fuR_s]
    split
    · omega
    · have := fuR_le (N := N) (kp := kp) r (i + 1)
      omega
theorem csP_in (h : CI σ f mi n C W L) (hw : alW f C n 0) (hb : ¬ bsP f mi n C = -1) : r32 (csP f mi n C (bsP f mi n C)) := by
  have hn := h.2.2.1
  have hs : ∀ i, i < n → ∀ p : Int, (0 ≤ p ∧ p < nP f C i) → sIn (sdP f (C i) p) := fun i hi p hp => by
    have hB := (h.2.2.2.2.2.1 i (by omega)).bas (alW_at n 0 hw i (by omega) (by omega))
    exact sdP_in (by have := hB.1; omega) hp
  have cb : 0 ≤ bsP f mi n C ∧ bsP f mi n C < nP f C 0 ∧ ¬ csP f mi n C (bsP f mi n C) = -1 := by
    rcases chp_in (csP f mi n C) (nP f C 0) with q | q
    · exact absurd q hb
    · exact q
  have := cst_in2 (n := n) (N := nP f C) (fe := fP f mi C) (ds := dP f C) (kp := kP f mi C) (fP_in f mi C) (fun i hi p q hp hq => dst_in (hs i (by omega) p hp) (hs (i + 1) hi q hq)) (n - 1) 0 (bsP f mi n C) (by omega) ⟨cb.1, cb.2.1⟩
  unfold csP r32
  omega
theorem ag_realise (h : CI σ f mi n C W L) (hL : bdL L) : AgV d 7 [vr 8 0] 116 [vr 9 0] 137 3 (some 0) σ f mi n C W L := by
  have hn := h.2.2.1
  by_cases g : alW f C n 0
  · by_cases gb : bsP f mi n C = -1
    · have := fuR_le (N := nP f C) (kp := kP f mi C) (n - 1) 0
      exact Or.inl ⟨some (-1 - ((fuR (nP f C) (kP f mi C) (n - 1) 0 : Nat) : Int)), f, mi, n, C, none, L, ⟨rfl, fun z hz => is_v (by unfold r32; omega) hz⟩, hL, p_realise sml h g (fun _ σ1 h1 => ⟨rfl, h1⟩) (fun q => absurd gb q), fun σ1 h1 => q_realise h1 g (fun _ σ2 h2 t2 => ⟨rfl, h2, t2⟩) (fun q => absurd gb q)⟩
    · exact Or.inl ⟨some (csP f mi n C (bsP f mi n C)), f, mi, n, C, some (wyP f mi n C), L, ⟨rfl, fun z hz => is_v (csP_in h g gb) hz⟩, hL, p_realise sml h g (fun q => absurd q gb) (fun _ σ1 h1 => ⟨rfl, h1⟩), fun σ1 h1 => q_realise h1 g (fun q => absurd q gb) (fun _ σ2 h2 t2 => ⟨rfl, h2, t2⟩)⟩
  · exact Or.inr ⟨2, 1, rfl, by omega, (p_realiseW (d := d + 4) h g).iff.mpr ⟨rfl, h⟩, fun σ1 h1 => q_realiseW h1 g (fun σ2 h2 t2 => ⟨rfl, h2, t2⟩)⟩
theorem ag_faults (h : CI σ f mi n C W L) (hL : bdL L) : AgV d 11 [vr 8 0] 126 [vr 9 0] 141 3 (some 0) σ f mi n C W L := by
  have hn := h.2.2.1
  have hC := h.2.2.2.2.2.1
  have fl : (ftP f mi n C).length ≤ 240 := flt_len (exP f mi C) hn.2 (fun i hi => chT_len (hC i (by omega)))
  have bd : bdL (ftP f mi n C) := bd_fAl (E := exP f mi C) hn.2 (fun i hi => chT_len (hC i (by omega))) n 0 [] (by omega) (fun x hx => by cases hx)
  by_cases g : alW f C n 0
  · exact Or.inl ⟨some ((ftP f mi n C).length : Int), f, mi, n, C, W, ftP f mi n C, ⟨rfl, fun z hz => is_v (by unfold r32; omega) hz⟩, bd, p_faults (d := d + 1) h g (fun σ1 h1 => ⟨rfl, h1⟩), fun σ1 h1 => q_faults h1 g (fun σ2 h2 t2 => ⟨rfl, h2, t2⟩)⟩
  · exact Or.inr ⟨2, 1, rfl, by omega, (p_faultsW (d := d + 4) h g).iff.mpr ⟨rfl, h⟩, fun σ1 h1 => q_faultsW h1 g (fun σ2 h2 t2 => ⟨rfl, h2, t2⟩)⟩
theorem ans_in {t : Nat} (hL : bdL L) (ht : t < L.length) : r32 (ans L t a) := by
  have hm : L.getD t (0, 0, 0) ∈ L := by
    rw [List.getD_eq_getElem?_getD, List.getElem?_eq_getElem ht]
    exact List.getElem_mem _
  obtain ⟨q1, q2, q3⟩ := hL _ hm
  unfold ans r32
  split
  · omega
  · split <;> omega
theorem ag_fault (h : CI σ f mi n C W L) (hL : bdL L) (rk : r32 k) (ra : r32 a) : AgV d 12 [vr 8 0, vi k, vi a] 127 [vr 9 0, vi k, vi a] 142 5 (some 0) σ f mi n C W L := by
  have hl := h.2.2.2.2.2.2.1.2
  by_cases g1 : k < 0 ∨ (L.length : Int) ≤ k
  · exact Or.inr ⟨3, 1, rfl, by omega, (p_faultK (d := d + 5) h g1 rk).iff.mpr ⟨rfl, h⟩, fun σ1 h1 => q_faultK (d := d + 6) h1 g1 rk (fun σ2 h2 t2 => ⟨rfl, h2, t2⟩)⟩
  obtain ⟨t, rfl⟩ : ∃ t : Nat, k = (t : Int) := ⟨k.toNat, by omega⟩
  by_cases g2 : a < 0 ∨ 2 < a
  · exact Or.inr ⟨1, 2, rfl, by omega, (p_faultW (d := d + 5) h (by omega) g2 ra).iff.mpr ⟨rfl, h⟩, fun σ1 h1 => q_faultW (d := d + 6) h1 (by omega) g2 ra (fun σ2 h2 t2 => ⟨rfl, h2, t2⟩)⟩
  · exact Or.inl ⟨some (ans L t a), f, mi, n, C, W, L, ⟨rfl, fun z hz => is_v (ans_in hL (by omega)) hz⟩, hL, (p_fault (d := d + 5) h (by omega) (by omega)).iff.mpr ⟨rfl, h⟩, fun σ1 h1 => q_fault (d := d + 6) h1 (by omega) (by omega) (fun σ2 h2 t2 => ⟨rfl, h2, t2⟩)⟩
end AH
