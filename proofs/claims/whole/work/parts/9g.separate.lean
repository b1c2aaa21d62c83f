/-! WHAT A RUN CAN WRITE: only cells of groups that its references lead to -/
def okV (P : Nat → Prop) (v : Va) : Prop := match v with
  | .inr (.inl q) => P q.1
  | _ => True
def okS (P : Nat → Prop) (st : List Va) : Prop := ∀ v ∈ st, okV P v
def okL (P : Nat → Prop) (ls : Lo) : Prop := ∀ (k : Nat) (v : Va), lget ls k = some v → okV P v
/-- references of P lead to P -/
def Clo (P : Nat → Prop) : Prop := P 13 ∧ ∀ g j k q, P g → inR g j = true → k < rn g j → rf g j k = some q → P q.1
section SE
variable {P : Nat → Prop} {d y pc : Nat} {ls : Lo} {st : List Va} {σ : Sg} {a : Ac}
theorem okS_c {v : Va} : okS P (v :: st) ↔ okV P v ∧ okS P st := by
  constructor
  · intro h
    exact ⟨h v (by simp), fun w hw => h w (by simp [hw])⟩
  · rintro ⟨h1, h2⟩ w hw
    rcases List.mem_cons.mp hw with rfl | hw
    · exact h1
    · exact h2 w hw
theorem okV_i {z : Int} : okV P (vi z) ↔ True := Iff.rfl
theorem okV_l {z : Int} : okV P (vl z) ↔ True := Iff.rfl
theorem okV_r {q : Nat × Nat} : okV P (.inr (.inl q)) ↔ P q.1 := Iff.rfl
theorem okS_n : okS P [] ↔ True := ⟨fun _ => trivial, fun _ v hv => nomatch hv⟩
theorem okL_set {v : Va} (hv : okV P v) : ∀ {ls : Lo} {i : Nat}, okL P ls → okL P (lset ls i v)
  | [], i, h => h
  | x :: t, 0, h => fun k w hk => by
    cases k with
    | zero => cases hk; exact hv
    | succ k => exact h (k + 1) w hk
  | x :: t, i + 1, h => fun k w hk => by
    have ht : okL P t := fun k w hk => h (k + 1) w hk
    cases k with
    | zero =>
      refine h 0 w ?_
      show x = some w
      have : clr i x = some w := hk
      unfold clr at this
      split at this
      · cases this
      · exact this
    | succ k => exact okL_set hv ht k w hk
theorem okL_cut : ∀ {ls : Lo} {i : Nat}, okL P ls → okL P (ls.set i none)
  | [], i, h => h
  | x :: t, 0, h => fun k w hk => by
    cases k with
    | zero => cases hk
    | succ k => exact h (k + 1) w hk
  | x :: t, i + 1, h => fun k w hk => by
    have ht : okL P t := fun k w hk => h (k + 1) w hk
    cases k with
    | zero => exact h 0 w hk
    | succ k => exact okL_cut ht k w hk
theorem okL_setL {v : Va} (hv : okV P v) {i : Nat} (h : okL P ls) : okL P (lsetL ls i v) := okL_cut (okL_set hv h)
theorem up_sep {g j k : Nat} {z : Int} (h : P g) : ∀ g', ¬ P g' → up σ g j k z g' = σ g' := fun g' hg => by
  funext j' k'
  simp only [up]
  rw [if_neg (fun e => hg (by rw [e.1]; exact h))]
theorem fvv_ok (hP : Clo P) {q : Nat × Nat} {k : Nat} (h : P q.1) (h1 : inR q.1 q.2 = true) (h2 : k < rn q.1 q.2) : okV P (fvv σ q.1 q.2 k) := by
  unfold fvv
  cases hr : rf q.1 q.2 k with
  | none => exact trivial
  | some w => exact hP.2 _ _ _ _ h h1 h2 hr
/-- what an instruction leaves -/
def okA (P : Nat → Prop) (σ : Sg) (a : Ac) : Prop := match a with
  | .inl (_, ls', st', σ') => okL P ls' ∧ okS P st' ∧ ∀ g, ¬ P g → σ' g = σ g
  | .inr (.inl (_, σ')) => σ' = σ
  | .inr (.inr (_, as, _, ls', st', σ')) => okS P as ∧ okL P ls' ∧ okS P st' ∧ σ' = σ
theorem okS_take {n : Nat} (h : okS P st) : okS P (st.take n).reverse := fun v hv => h v (List.mem_of_mem_take (List.mem_reverse.mp hv))
theorem okS_drop {n : Nat} (h : okS P st) : okS P (st.drop n) := fun v hv => h v (List.mem_of_mem_drop hv)
set_option maxHeartbeats 4000000 in
theorem stp_sep (hP : Clo P) (h : stp y pc ls st σ = some a) (hl : okL P ls) (hs : okS P st) : okA P σ a := by
  unfold stp at h
  cases hd : decode (mB y) pc with
  | error w => rw [hd] at h; cases h
  | ok w =>
  obtain ⟨i, len⟩ := w
  rw [hd] at h
  dsimp only at h
  by_cases ho : okl i len = true
  case neg => rw [if_neg ho] at h; cases h
  rw [if_pos ho] at h
  clear ho hd
  cases i
  case invokevirtual k =>
    dsimp only [stpI] at h
    split at h
    next y2 hy2 =>
      split at h
      next q st2 hq =>
        split at h
        next h1 =>
          cases h
          have hdr : okS P (.inr (.inl q) :: st2) := by rw [← hq]; exact okS_drop hs
          exact ⟨okS_c.mpr ⟨(okS_c.mp hdr).1, okS_take hs⟩, hl, (okS_c.mp hdr).2, rfl⟩
        next => cases h
      next => cases h
    next => cases h
  case ifCond =>
    dsimp only [stpI] at h
    split at h
    next =>
      obtain ⟨t, -, ⟨-, rfl⟩ | ⟨-, rfl⟩⟩ := brn_inv h <;> exact ⟨hl, (okS_c.mp hs).2, fun _ _ => rfl⟩
    next => cases h
  case if_icmp =>
    dsimp only [stpI] at h
    split at h
    next =>
      obtain ⟨t, -, ⟨-, rfl⟩ | ⟨-, rfl⟩⟩ := brn_inv h <;> exact ⟨hl, (okS_c.mp (okS_c.mp hs).2).2, fun _ _ => rfl⟩
    next => cases h
  case getfield k =>
    dsimp only [stpI] at h
    split at h
    next q st2 w hw =>
      split at h
      next h1 =>
        cases h
        exact ⟨hl, okS_c.mpr ⟨fvv_ok hP (okS_c.mp hs).1 h1.2.1 (by rw [(rol_ok h1.1 h1.2.1).2, h1.2.2]; exact (fl_ok hw).2.1), (okS_c.mp hs).2⟩, fun _ _ => rfl⟩
      next => cases h
    next => cases h
  case putfield k =>
    dsimp only [stpI] at h
    split at h
    next z q st2 w hw =>
      split at h
      next h1 =>
        cases h
        have h2 := okS_c.mp (okS_c.mp hs).2
        exact ⟨hl, h2.2, up_sep h2.1⟩
      next => cases h
    next => cases h
  case iastore =>
    dsimp only [stpI] at h
    split at h
    next x z q st2 =>
      split at h
      next h1 =>
        cases h
        have h2 := okS_c.mp (okS_c.mp (okS_c.mp hs).2).2
        exact ⟨hl, h2.2, up_sep h2.1⟩
      next => cases h
    next => cases h
  case bastore =>
    dsimp only [stpI] at h
    split at h
    next x z q st2 =>
      split at h
      next h1 =>
        cases h
        have h2 := okS_c.mp (okS_c.mp (okS_c.mp hs).2).2
        exact ⟨hl, h2.2, up_sep h2.1⟩
      next => cases h
    next => cases h
  case lastore =>
    dsimp only [stpI] at h
    split at h
    next x z q st2 =>
      split at h
      next h1 =>
        cases h
        have h2 := okS_c.mp (okS_c.mp (okS_c.mp hs).2).2
        exact ⟨hl, h2.2, up_sep h2.1⟩
      next => cases h
    next => cases h
  case aaload =>
    dsimp only [stpI] at h
    split at h
    next z q st2 =>
      split at h
      next w hw =>
        split at h
        next h1 =>
          cases h
          have h2 := okS_c.mp (okS_c.mp hs).2
          exact ⟨hl, okS_c.mpr ⟨hP.2 _ _ _ _ h2.1 h1.2.1 (by omega) hw, h2.2⟩, fun _ _ => rfl⟩
        next => cases h
      next => cases h
    next => cases h
  case getstatic k =>
    dsimp only [stpI] at h
    split at h
    next j hj =>
      cases h
      exact ⟨hl, okS_c.mpr ⟨hP.1, hs⟩, fun _ _ => rfl⟩
    next => cases h
  case invokestatic k =>
    dsimp only [stpI] at h
    (repeat' (split at h))
    all_goals first
      | cases h; done
      | (cases h; simp only [okS_c] at hs; exact ⟨hl, okS_c.mpr ⟨trivial, hs.2.2⟩, fun _ _ => rfl⟩)
      | (cases h; simp only [okS_c] at hs; exact ⟨hl, okS_c.mpr ⟨trivial, hs.2⟩, fun _ _ => rfl⟩)
      | (cases h; exact ⟨okS_take hs, hl, okS_drop hs, rfl⟩)
  case aload k =>
    dsimp only [stpI, lda] at h
    split at h
    next q hq =>
      cases h
      exact ⟨hl, okS_c.mpr ⟨hl _ _ hq, hs⟩, fun _ _ => rfl⟩
    next => cases h
  case aload_n k =>
    dsimp only [stpI, lda] at h
    split at h
    next q hq =>
      cases h
      exact ⟨hl, okS_c.mpr ⟨hl _ _ hq, hs⟩, fun _ _ => rfl⟩
    next => cases h
  all_goals first
    | exact nomatch (show (none : Option Ac) = some _ from h)
    | (dsimp only [stpI, ldi, ldl, sti, sta, stl, go, fin] at h
       (repeat' (split at h))
       all_goals first
         | cases h; done
         | (cases h; rfl)
         | (cases h
            try simp only [okS_c, okV_i, okV_l, okV_r, true_and, and_true] at hs
            refine ⟨?_, ?_, fun _ _ => rfl⟩
            · first
                | exact hl
                | exact okL_set (show okV P (vi _) from trivial) hl
                | exact okL_set (show okV P (.inr (.inl _)) from hs.1) hl
                | exact okL_setL (show okV P (vl _) from trivial) hl
            · try simp only [okS_c, okV_i, okV_l, okV_r, true_and, and_true]
              first | exact hs | exact hs.2 | exact ⟨hs.1, hs.1, hs.2⟩ | simp_all))
theorem ini_ok {as : List Va} (h : okS P as) : okL P (ini y as) := by
  intro k v hk
  have : ∀ (L : Lo) (k : Nat) (v : Va), lget L k = some v → some v ∈ L := by
    intro L
    induction L with
    | nil => intro k v hk; cases hk
    | cons x t ih =>
      intro k v hk
      cases k with
      | zero => exact List.mem_cons.mpr (Or.inl (show x = some v from hk).symm)
      | succ k => exact List.mem_cons_of_mem _ (ih k v hk)
  have hm := this _ _ _ hk
  unfold ini at hm
  rcases List.mem_append.mp hm with hm | hm
  · obtain ⟨w, hw, e⟩ := List.mem_map.mp hm
    cases e
    exact h v hw
  · have := (List.mem_replicate.mp hm).2
    cases this
theorem fin_ok {r : Rs} {σ' : Sg} (h : stp y pc ls st σ = some (.inr (.inl (r, σ')))) : ∀ v, r = .inl (some v) → okV P v := by
  intro v hv
  subst hv
  obtain ⟨-, -, h | h⟩ := fin_inv h
  · obtain ⟨z, e, -⟩ := h
    cases e
    exact trivial
  · cases h.1
end SE
/-- a run writes but what its references lead to (and its count of what was caught) -/
theorem ex_sep {P : Nat → Prop} (hP : Clo P) : ∀ (n d y pc : Nat) (ls : Lo) (st : List Va) (σ : Sg) (x : Rs × Sg), ex n d y pc ls st σ = some x → y < 129 → okL P ls → okS P st → (∀ g, ¬ P g → x.2 g = σ g) ∧ ∀ v, x.1 = .inl (some v) → okV P v := by
  intro n
  induction n with
  | zero => intro d y pc ls st σ x h; cases h
  | succ n ih =>
    intro d y pc ls st σ x h hy hl hs
    rw [ex_s] at h
    cases hst : stp y pc ls st σ with
    | none => rw [hst] at h; cases h
    | some a =>
      rw [hst] at h
      have h0 := stp_sep hP hst hl hs
      rcases a with ⟨pc', ls', st', σ'⟩ | ⟨r, σ'⟩ | ⟨y', as, pc', ls', st', σ'⟩
      · obtain ⟨a1, a2, a3⟩ := h0
        obtain ⟨b1, b2⟩ := ih _ _ _ _ _ _ _ h hy a1 a2
        exact ⟨fun g hg => (b1 g hg).trans (a3 g hg), b2⟩
      · cases h
        have e : σ' = σ := h0
        exact ⟨fun g _ => by rw [e], fin_ok hst⟩
      · obtain ⟨a1, a2, a3, e⟩ := h0
        cases d with
        | zero => cases h
        | succ d' =>
          dsimp only at h
          cases hc : ex n d' y' 0 (ini y' as) [] σ' with
          | none => rw [hc] at h; cases h
          | some q =>
            obtain ⟨c1, c2⟩ := ih _ _ _ _ _ _ _ hc (cal_lt hy hst) (ini_ok a1) (okS_n.mpr trivial)
            rw [hc] at h
            rcases q with ⟨v | q, σ2⟩
            · have hv : okS P (v.toList ++ st') := by
                intro w hw
                rcases List.mem_append.mp hw with hw | hw
                · cases v with
                  | none => cases hw
                  | some v =>
                    obtain rfl : w = v := by simpa using hw
                    exact c2 _ rfl
                · exact a3 w hw
              obtain ⟨b1, b2⟩ := ih _ _ _ _ _ _ _ h hy a2 hv
              exact ⟨fun g hg => (b1 g hg).trans ((c1 g hg).trans (by rw [e])), b2⟩
            · dsimp only at h
              rw [hnd_lt (by omega)] at h
              cases h
              exact ⟨fun g hg => (c1 g hg).trans (by rw [e]), fun v hv => by cases hv⟩
theorem Rn.sep {P : Nat → Prop} (hP : Clo P) {d y : Nat} {as : List Va} {σ σ' : Sg} {r : Rs} (h : Rn d y as σ r σ') (hy : y < 129) (ha : okS P as) : ∀ g, ¬ P g → σ' g = σ g := by
  obtain ⟨n, h⟩ := h
  exact (ex_sep hP n _ _ _ _ _ _ _ h hy (ini_ok ha) (okS_n.mpr trivial)).1
/-- the class's cells; the reference's -/
def Pcl (g : Nat) : Prop := g < 9 ∨ g = 10 ∨ g = 11 ∨ g = 13
def Prf (g : Nat) : Prop := g = 9 ∨ g = 13
theorem clo_c : Clo Pcl := by
  refine ⟨Or.inr (Or.inr (Or.inr rfl)), fun g j k q hg hi hk hr => ?_⟩
  unfold rf at hr
  split at hr
  · have : q.1 = g := by
      unfold rfC at hr
      repeat' split at hr
      all_goals first | (cases hr; rfl) | cases hr
    rw [this]
    exact hg
  · split at hr
    · rename_i h8
      subst h8
      have hk2 : k < rn8 j := hk
      unfold rf8 at hr
      unfold Pcl
      split at hr
      all_goals first
        | (cases hr; dsimp only; simp only [rn8] at hk2; omega)
        | (cases hr; dsimp only; omega)
        | (split at hr
           all_goals first | (cases hr; dsimp only; omega) | (cases hr; done))
        | (cases hr; done)
    · split at hr
      · rename_i h9
        unfold Pcl at hg
        omega
      · cases hr
theorem clo_r : Clo Prf := by
  refine ⟨Or.inr rfl, fun g j k q hg hi hk hr => ?_⟩
  unfold Prf at hg
  have h9 : g = 9 := by
    rcases hg with h | h
    · exact h
    · subst h
      have := inR_iff.mp hi
      omega
  subst h9
  unfold rf at hr
  rw [if_neg (by omega), if_neg (by omega), if_pos rfl] at hr
  split at hr
  · have : q.1 = 9 := by
      unfold rf9 at hr
      repeat' split at hr
      all_goals first | (cases hr; rfl) | cases hr
    exact Or.inl this
  · cases hr
