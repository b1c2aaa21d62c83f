/-! CLASS AND REFERENCE AGREE, call by call -/
def bdF (x : Flt) : Prop := (0 ≤ x.1 ∧ x.1 ≤ 100) ∧ (0 ≤ x.2.1 ∧ x.2.1 ≤ 100) ∧ 0 ≤ x.2.2 ∧ x.2.2 ≤ 100
def bdL (L : List Flt) : Prop := ∀ x ∈ L, bdF x
theorem bd_adr {b : Int → Int} {g : Int → Flt} : ∀ (r : Nat) (v : Int) (L : List Flt), (∀ z : Int, v ≤ z → z < v + r → bdF (g z)) → bdL L → bdL (adr b g r v L)
  | 0, _, _, _, h => h
  | r + 1, v, L, hg, h => by
    rw [adr_s]
    refine bd_adr r (v + 1) _ (fun z z0 z1 => hg z (by omega) (by omega)) ?_
    unfold ad
    split
    · exact h
    · intro x hx
      rcases List.mem_append.mp hx with hx | hx
      · exact h x hx
      · rw [List.mem_singleton.mp hx]
        exact hg v (by omega) (by omega)
theorem bd_fPa {fr to : Int → Int} {i : Int} (hi : 0 ≤ i ∧ i ≤ 7) : ∀ (r : Nat) (v : Int) (L : List Flt), 0 ≤ v → v + r = 4 → bdL L → bdL (fPa fr to i r v L)
  | 0, _, _, _, _, h => h
  | r + 1, v, L, h0, h1, h => by
    rw [fPa_s]
    exact bd_fPa hi r (v + 1) _ (by omega) (by omega) (bd_adr _ _ _ (fun z z0 z1 => by unfold bdF; dsimp only; omega) h)
theorem bd_fCh {E : Exm} {n i : Nat} {L : List Flt} (hi : i < 8) (hT : (E.1 i).length ≤ 4) (h : bdL L) : bdL (fCh E n i L) := by
  unfold fCh fMi
  refine bd_adr _ _ _ (fun z z0 z1 => by unfold bdF; dsimp only; omega) ?_
  have h1 : bdL (fVo (E.1 i) (E.2.2.2.2 i) (i : Int) L) := by
    unfold fVo fV4 fV3 fV2 fV1
    exact bd_adr _ _ _ (fun z z0 z1 => by unfold bdF; dsimp only; omega) (bd_adr _ _ _ (fun z z0 z1 => by unfold bdF; dsimp only; omega) (bd_adr _ _ _ (fun z z0 z1 => by unfold bdF; dsimp only; omega) (bd_adr _ _ _ (fun z z0 z1 => by unfold bdF; dsimp only; omega) h)))
  unfold fVM
  split
  · unfold fMv fSt fSe fLe
    exact bd_adr _ _ _ (fun z z0 z1 => by unfold bdF; dsimp only; omega) (bd_adr _ _ _ (fun z z0 z1 => by unfold bdF; dsimp only; omega) (bd_adr _ _ _ (fun z z0 z1 => by unfold bdF; dsimp only; omega) (bd_fPa (by omega) 4 0 _ (by omega) (by omega) h1)))
  · exact h1
theorem bd_fAl {E : Exm} {n : Nat} (hn : n ≤ 8) (hT : ∀ i, i < n → (E.1 i).length ≤ 4) : ∀ (r i : Nat) (L : List Flt), i + r = n → bdL L → bdL (fAl E n r i L)
  | 0, _, _, _, h => h
  | r + 1, i, L, h1, h => by
    rw [fAl_s]
    exact bd_fAl hn hT r (i + 1) _ (by omega) (bd_fCh (by omega) (hT i (by omega)) h)
/-- both sides answer alike: as it fits, or refused -/
def AgV (d yc : Nat) (asC : List Va) (yr : Nat) (asR : List Va) (hy pc : Nat) (b : Option Int) (σ : Sg) (f mi : Int) (n : Nat) (C : Nat → Cho) (W : Option (Nat → Int)) (L : List Flt) : Prop :=
  (∃ (a : Option Int) (f' mi' : Int) (n' : Nat) (C' : Nat → Cho) (W' : Option (Nat → Int)) (L' : List Flt), (a.isSome = b.isSome ∧ ∀ z, a = some z → -2147483648 ≤ z ∧ z ≤ 2147483647) ∧ bdL L' ∧ Wm (d + 6) yc asC σ (fun r σ1 => r = .inl (a.map vi) ∧ CI σ1 f' mi' n' C' W' L') ∧ ∀ σ1, RI σ1 f mi n C W L → Wm (d + 7) yr asR σ1 (fun r σ2 => r = .inl (a.map vi) ∧ RI σ2 f' mi' n' C' W' L' ∧ σ2 9 0 0 = 0)) ∨
  (∃ (k t : Nat), hnd hy pc k = some t ∧ (1 ≤ t ∧ t ≤ 3) ∧ Wm (d + 6) yc asC σ (fun r σ1 => r = .inr k ∧ CI σ1 f mi n C W L) ∧ ∀ σ1, RI σ1 f mi n C W L → Wm (d + 7) yr asR σ1 (fun r σ2 => r = .inl (b.map vi) ∧ RI σ2 f mi n C W L ∧ σ2 9 0 0 = (t : Int)))
section AG
variable {d : Nat} {σ : Sg} {f mi : Int} {n : Nat} {C : Nat → Cho} {W : Option (Nat → Int)} {L : List Flt} {a b k v m s l o : Int}
abbrev r32 (z : Int) : Prop := -2147483648 ≤ z ∧ z ≤ 2147483647
theorem no_v {z : Int} (h : (none : Option Int) = some z) : r32 z := by cases h
theorem is_v {x z : Int} (hx : r32 x) (h : some x = some z) : r32 z := by cases h; exact hx
theorem ag_key (h : CI σ f mi n C W L) (hL : bdL L) (ra : r32 a) (hm : m = 0 ∨ m = 1) : AgV d 0 [vr 8 0, vi a, vi m] 79 [vr 9 0, vi a, vi m] 130 3 none σ f mi n C W L := by
  by_cases g : -7 ≤ a ∧ a ≤ 7
  · exact Or.inl ⟨none, a, m, n, C, none, L, ⟨rfl, fun z hz => no_v hz⟩, hL, p_key h g hm (fun σ1 h1 => ⟨rfl, h1⟩), fun σ1 h1 => q_key h1 g hm (fun σ2 h2 t2 => ⟨rfl, h2, t2⟩)⟩
  · exact Or.inr ⟨1, 1, rfl, by omega, (p_key1 (d := d + 5) (by omega) ra).iff.mpr ⟨rfl, h⟩, fun σ1 h1 => q_key1 h1 (by omega) ra (fun σ2 h2 t2 => ⟨rfl, h2, t2⟩)⟩
theorem ag_length (h : CI σ f mi n C W L) (hL : bdL L) (ra : r32 a) : AgV d 1 [vr 8 0, vi a] 80 [vr 9 0, vi a] 131 2 none σ f mi n C W L := by
  by_cases g : 1 ≤ a ∧ a ≤ 8
  · exact Or.inl ⟨none, f, mi, a.toNat, C, none, L, ⟨rfl, fun z hz => no_v hz⟩, hL, p_length h g (fun σ1 h1 => ⟨rfl, h1⟩), fun σ1 h1 => q_length h1 g (fun σ2 h2 t2 => ⟨rfl, h2, t2⟩)⟩
  · exact Or.inr ⟨1, 1, rfl, by omega, (p_length1 (d := d + 6) (by omega) ra).iff.mpr ⟨rfl, h⟩, fun σ1 h1 => q_length1 h1 (by omega) ra (fun σ2 h2 t2 => ⟨rfl, h2, t2⟩)⟩
theorem ag_bass (h : CI σ f mi n C W L) (hL : bdL L) (rb : r32 b) (rl : r32 l) (ro : r32 o) (ra : r32 a) : AgV d 2 [vr 8 0, vi b, vi l, vi o, vi a] 82 [vr 9 0, vi b, vi l, vi o, vi a] 132 9 (some 0) σ f mi n C W L := by
  have ref : ((b < 0 ∨ 7 < b) ∨ ((l < 0 ∨ 6 < l) ∨ a < -1 ∨ 1 < a) ∨ bSn l o a < 36 ∨ 60 < bSn l o a) → ∀ σ1, RI σ1 f mi n C W L → Wm (d + 7) 82 [vr 9 0, vi b, vi l, vi o, vi a] σ1 (fun r σ2 => r = .inl ((some 0 : Option Int).map vi) ∧ RI σ2 f mi n C W L ∧ σ2 9 0 0 = ((1 : Nat) : Int)) := fun hx σ1 h1 => q_bass1 (d := d + 6) h1 hx rb rl ra ro (fun σ2 h2 t2 => ⟨rfl, h2, t2⟩)
  by_cases g1 : b < 0 ∨ 8 ≤ b
  · exact Or.inr ⟨1, 1, rfl, by omega, (p_bassC (d := d + 5) g1 rb).iff.mpr ⟨rfl, h⟩, ref (by omega)⟩
  obtain ⟨c, rfl⟩ : ∃ c : Nat, b = (c : Int) := ⟨b.toNat, by omega⟩
  by_cases g2 : (l < 0 ∨ 6 < l) ∨ a < -1 ∨ 1 < a
  · exact Or.inr ⟨1, 1, rfl, by omega, (p_bassN (d := d + 5) (by omega) g2 rl ra).iff.mpr ⟨rfl, h⟩, ref (by omega)⟩
  by_cases g3 : bSn l o a < 36 ∨ 60 < bSn l o a
  · exact Or.inr ⟨1, 1, rfl, by omega, (p_bassS (d := d + 5) (by omega) (by omega) (by omega) ro g3).iff.mpr ⟨rfl, h⟩, ref (by omega)⟩
  · exact Or.inl ⟨some (bSn l o a), f, mi, n, _, none, L, ⟨rfl, fun z hz => is_v (by unfold r32; omega) hz⟩, hL, p_bass h (by omega) (by omega) (by omega) ro (by omega) (fun σ1 h1 => ⟨rfl, h1⟩), fun σ1 h1 => q_bass (d := d + 6) h1 (by omega) (by omega) (by omega) (by omega) (fun σ2 h2 t2 => ⟨rfl, h2, t2⟩)⟩
theorem ag_figure (h : CI σ f mi n C W L) (hL : bdL L) (rb : r32 b) (rm : r32 m) (rs : r32 s) : AgV d 3 [vr 8 0, vi b, vi m, vi s] 83 [vr 9 0, vi b, vi m, vi s] 133 7 (some 0) σ f mi n C W L := by
  have ref : ((b < 0 ∨ 7 < b) ∨ (m < 2 ∨ 9 < m) ∨ s < 0 ∨ 3 < s) → ∀ σ1, RI σ1 f mi n C W L → Wm (d + 7) 83 [vr 9 0, vi b, vi m, vi s] σ1 (fun r σ2 => r = .inl ((some 0 : Option Int).map vi) ∧ RI σ2 f mi n C W L ∧ σ2 9 0 0 = ((1 : Nat) : Int)) := fun hx σ1 h1 => q_figure1 (d := d + 6) h1 hx rb rm rs (fun σ2 h2 t2 => ⟨rfl, h2, t2⟩)
  by_cases g1 : b < 0 ∨ 8 ≤ b
  · exact Or.inr ⟨1, 1, rfl, by omega, (p_figureC (d := d + 5) g1 rb).iff.mpr ⟨rfl, h⟩, ref (by omega)⟩
  obtain ⟨c, rfl⟩ : ∃ c : Nat, b = (c : Int) := ⟨b.toNat, by omega⟩
  by_cases g2 : (m < 2 ∨ 9 < m) ∨ s < 0 ∨ 3 < s
  · exact Or.inr ⟨1, 1, rfl, by omega, (p_figureN (d := d + 5) (by omega) g2 rm rs).iff.mpr ⟨rfl, h⟩, ref (by omega)⟩
  by_cases g3 : tkF (C c) m
  · have hl := g3.2.1
    exact Or.inl ⟨some (((C c).2.2.2.1.length : Int) + 1), f, mi, n, _, none, L, ⟨rfl, fun z hz => is_v (by unfold r32; omega) hz⟩, hL, p_figure h (by omega) (by omega) (by omega) g3 (fun σ1 h1 => ⟨rfl, h1⟩), fun σ1 h1 => q_figure (d := d + 6) h1 (by omega) (by omega) (by omega) g3 (fun σ2 h2 t2 => ⟨rfl, h2, t2⟩)⟩
  · exact Or.inr ⟨2, 2, rfl, by omega, (p_figureS (d := d + 3) h (by omega) (by omega) (by omega) g3).iff.mpr ⟨rfl, h⟩, fun σ1 h1 => q_figureS (d := d + 6) h1 (by omega) (by omega) (by omega) g3 (fun σ2 h2 t2 => ⟨rfl, h2, t2⟩)⟩
theorem spl_in {T : List (Int × Int)} (hT : TnOk T) (hk : 0 ≤ k ∧ k < T.length) : r32 (spl T o k) := by
  have hm : T.getD k.toNat (0, 0) ∈ T := by
    rw [List.getD_eq_getElem?_getD, List.getElem?_eq_getElem (by omega)]
    exact List.getElem_mem _
  have := hT _ hm
  unfold spl r32
  split <;> omega
theorem ag_spell (h : CI σ f mi n C W L) (hL : bdL L) (rb : r32 b) (rk : r32 k) : AgV d 4 [vr 8 0, vi b, vi k] 93 [vr 9 0, vi b, vi k] 134 5 (some 0) σ f mi n C W L := by
  by_cases g1 : b < 0 ∨ 8 ≤ b
  · exact Or.inr ⟨1, 1, rfl, by omega, (p_spellC (d := d + 5) g1 rb).iff.mpr ⟨rfl, h⟩, fun σ1 h1 => q_spellC (d := d + 6) h1 (by omega) rb (fun σ2 h2 t2 => ⟨rfl, h2, t2⟩)⟩
  obtain ⟨c, rfl⟩ : ∃ c : Nat, b = (c : Int) := ⟨b.toNat, by omega⟩
  by_cases g2 : (C c).2.2.1 = -1
  · exact Or.inr ⟨2, 2, rfl, by omega, (p_spellB (d := d + 5) h (by omega) g2).iff.mpr ⟨rfl, h⟩, fun σ1 h1 => q_spellB (d := d + 6) h1 (by omega) g2 (fun σ2 h2 t2 => ⟨rfl, h2, t2⟩)⟩
  by_cases g3 : k < 0 ∨ ((chT f (C c)).length : Int) ≤ k
  · exact Or.inr ⟨3, 3, rfl, by omega, (p_spellK (d := d + 5) h (by omega) g2 g3 rk).iff.mpr ⟨rfl, h⟩, fun σ1 h1 => q_spellK (d := d + 2) h1 (by omega) g2 g3 rk (fun σ2 h2 t2 => ⟨rfl, h2, t2⟩)⟩
  · have hB : TnOk (chT f (C c)) := by
      have hI := h.2.2.2.2.2.1 c (by omega)
      rcases hI.2.2.2.2.2 with q | q
      · exact absurd q.1 g2
      · exact chT_ok q
    exact Or.inl ⟨some (spl (chT f (C c)) (opt (C c).2.2.2.1) k), f, mi, n, C, W, L, ⟨rfl, fun z hz => is_v (spl_in hB (by omega)) hz⟩, hL, (p_spell (d := d + 5) h (by omega) g2 (by omega)).iff.mpr ⟨rfl, h⟩, fun σ1 h1 => q_spell (d := d + 2) h1 (by omega) g2 (by omega) (fun σ2 h2 t2 => ⟨rfl, h2, t2⟩)⟩
theorem chb (h : CI σ f mi n C W L) {c : Nat} (hc : c < 8) (hw : ¬ whC f (C c) = 0) : (chP f (C c)).length ≤ 64 ∧ ∃ σ' : Sg, ChB σ' c f (C c) := by
  have hI := h.2.2.2.2.2.1 c hc
  exact ⟨chP_len sml hI (hI.bas hw), σ, hI.bas hw⟩
theorem ag_places (h : CI σ f mi n C W L) (hL : bdL L) (rb : r32 b) : AgV d 5 [vr 8 0, vi b] 97 [vr 9 0, vi b] 135 4 (some 0) σ f mi n C W L := by
  by_cases g1 : b < 0 ∨ 8 ≤ b
  · exact Or.inr ⟨1, 1, rfl, by omega, (p_placesC (d := d + 5) g1 rb).iff.mpr ⟨rfl, h⟩, fun σ1 h1 => q_placesC (d := d + 1) h1 (by omega) rb (fun σ2 h2 t2 => ⟨rfl, h2, t2⟩)⟩
  obtain ⟨c, rfl⟩ : ∃ c : Nat, b = (c : Int) := ⟨b.toNat, by omega⟩
  by_cases g2 : whC f (C c) = 0
  · exact Or.inr ⟨2, 2, rfl, by omega, (p_placesW (d := d + 5) h (by omega) g2).iff.mpr ⟨rfl, h⟩, fun σ1 h1 => q_placesW (d := d + 1) h1 (by omega) g2 (fun σ2 h2 t2 => ⟨rfl, h2, t2⟩)⟩
  · have hl := (chb h (c := c) (by omega) g2).1
    exact Or.inl ⟨some ((chP f (C c)).length : Int), f, mi, n, C, W, L, ⟨rfl, fun z hz => is_v (by unfold r32; omega) hz⟩, hL, p_places (d := d + 1) sml h (by omega) g2 (fun σ1 h1 => ⟨rfl, h1⟩), fun σ1 h1 => q_places (d := d + 1) h1 (by omega) g2 (fun σ2 h2 t2 => ⟨rfl, h2, t2⟩)⟩
theorem ag_place (h : CI σ f mi n C W L) (hL : bdL L) (rb : r32 b) (rk : r32 k) (rv : r32 v) : AgV d 6 [vr 8 0, vi b, vi k, vi v] 98 [vr 9 0, vi b, vi k, vi v] 136 7 (some 0) σ f mi n C W L := by
  by_cases g1 : b < 0 ∨ 8 ≤ b
  · exact Or.inr ⟨1, 1, rfl, by omega, (p_placeC (d := d + 5) g1 rb).iff.mpr ⟨rfl, h⟩, fun σ1 h1 => q_placeC (d := d + 1) h1 (by omega) rb (fun σ2 h2 t2 => ⟨rfl, h2, t2⟩)⟩
  obtain ⟨c, rfl⟩ : ∃ c : Nat, b = (c : Int) := ⟨b.toNat, by omega⟩
  by_cases g2 : v < 0 ∨ 3 ≤ v
  · exact Or.inr ⟨1, 1, rfl, by omega, (p_placeV (d := d + 5) (by omega) g2 rv).iff.mpr ⟨rfl, h⟩, fun σ1 h1 => q_placeV (d := d + 1) h1 (by omega) g2 rv (fun σ2 h2 t2 => ⟨rfl, h2, t2⟩)⟩
  by_cases g3 : whC f (C c) = 0
  · exact Or.inr ⟨2, 2, rfl, by omega, (p_placeW (d := d + 5) h (by omega) (by omega) g3).iff.mpr ⟨rfl, h⟩, fun σ1 h1 => q_placeW (d := d + 1) h1 (by omega) (by omega) g3 (fun σ2 h2 t2 => ⟨rfl, h2, t2⟩)⟩
  by_cases g4 : k < 0 ∨ ((chP f (C c)).length : Int) ≤ k
  · exact Or.inr ⟨3, 3, rfl, by omega, p_placeK (d := d + 1) sml h (by omega) (by omega) g3 g4 rk (fun σ1 h1 => ⟨rfl, h1⟩), fun σ1 h1 => q_placeK (d := d + 1) h1 (by omega) (by omega) g3 g4 rk (fun σ2 h2 t2 => ⟨rfl, h2, t2⟩)⟩
  · obtain ⟨hl, σ0, hB⟩ := chb h (c := c) (by omega) g3
    have hs := sdP_in (f := f) (x := C c) (p := k) (by have := hB.1; omega) ⟨by omega, by omega⟩ v (by omega) (by omega)
    have e : sdP f (C c) k v = plA (chP f (C c)) k v := by
      unfold sdP
      rw [if_neg (by omega), if_neg (by omega)]
    rw [e] at hs
    exact Or.inl ⟨some (plA (chP f (C c)) k v), f, mi, n, C, W, L, ⟨rfl, fun z hz => is_v (by unfold r32; omega) hz⟩, hL, p_place (d := d + 1) sml h (by omega) (by omega) g3 (by omega) (fun σ1 h1 => ⟨rfl, h1⟩), fun σ1 h1 => q_place (d := d + 1) h1 (by omega) (by omega) g3 (by omega) (fun σ2 h2 t2 => ⟨rfl, h2, t2⟩)⟩
theorem ag_pupil (h : CI σ f mi n C W L) (hL : bdL L) (rb : r32 b) (rv : r32 v) (rs : r32 s) : AgV d 10 [vr 8 0, vi b, vi v, vi s] 120 [vr 9 0, vi b, vi v, vi s] 140 4 none σ f mi n C W L := by
  have ref : ((b < 0 ∨ 7 < b) ∨ (v < 0 ∨ 2 < v) ∨ s < 0 ∨ 127 < s) → ∀ σ1, RI σ1 f mi n C W L → Wm (d + 7) 120 [vr 9 0, vi b, vi v, vi s] σ1 (fun r σ2 => r = .inl ((none : Option Int).map vi) ∧ RI σ2 f mi n C W L ∧ σ2 9 0 0 = ((1 : Nat) : Int)) := fun hx σ1 h1 => q_pupil1 (d := d + 6) h1 hx rb rv rs (fun σ2 h2 t2 => ⟨rfl, h2, t2⟩)
  by_cases g1 : b < 0 ∨ 8 ≤ b
  · exact Or.inr ⟨1, 1, rfl, by omega, (p_pupilC (d := d + 5) g1 rb).iff.mpr ⟨rfl, h⟩, ref (by omega)⟩
  obtain ⟨c, rfl⟩ : ∃ c : Nat, b = (c : Int) := ⟨b.toNat, by omega⟩
  by_cases g2 : v < 0 ∨ 3 ≤ v
  · exact Or.inr ⟨1, 1, rfl, by omega, (p_pupilV (d := d + 5) (by omega) g2 rv).iff.mpr ⟨rfl, h⟩, ref (by omega)⟩
  by_cases g3 : s < 0 ∨ 127 < s
  · exact Or.inr ⟨1, 1, rfl, by omega, (p_pupilS (d := d + 5) (by omega) (by omega) g3 rs).iff.mpr ⟨rfl, h⟩, ref (by omega)⟩
  · exact Or.inl ⟨none, f, mi, n, _, W, L, ⟨rfl, fun z hz => no_v hz⟩, hL, p_pupil h (by omega) (by omega) (by omega) (fun σ1 h1 => ⟨rfl, h1⟩), fun σ1 h1 => q_pupil (d := d + 6) h1 (by omega) (by omega) (by omega) (fun σ2 h2 t2 => ⟨rfl, h2, t2⟩)⟩
end AG
