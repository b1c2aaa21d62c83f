/-! 47: FiguredBass$Move.startAt(LFiguredBass$Chord;I)V -/
theorem d47_0 : decode (mB 47) 0 = .ok (.aload_n 0, 1) := by decide +kernel
theorem u47_0 {d : Nat} {ls : Lo} {st : List Va} {σ : Sg} {Q : Rs → Sg → Prop} : Wx d 47 0 ls st σ Q ↔ Lr (lget ls 0) (fun z => Wx d 47 1 ls (.inr (.inl z) :: st) σ Q) := u_aload_n d47_0
theorem d47_1 : decode (mB 47) 1 = .ok (.aload_n 1, 1) := by decide +kernel
theorem u47_1 {d : Nat} {ls : Lo} {st : List Va} {σ : Sg} {Q : Rs → Sg → Prop} : Wx d 47 1 ls st σ Q ↔ Lr (lget ls 1) (fun z => Wx d 47 2 ls (.inr (.inl z) :: st) σ Q) := u_aload_n d47_1
theorem d47_2 : decode (mB 47) 2 = .ok (.getfield 24, 3) := by decide +kernel
theorem u47_2 {d : Nat} {ls : Lo} {st : List Va} {σ : Sg} {Q : Rs → Sg → Prop} {g j : Nat} : Wx d 47 2 ls (vr g j :: st) σ Q ↔ isO g j 3 ∧ Wx d 47 5 ls (fvv σ g j 12 :: st) σ Q := u_get (w := (3, 12)) d47_2 rfl
theorem d47_5 : decode (mB 47) 5 = .ok (.putfield 30, 3) := by decide +kernel
theorem u47_5 {d : Nat} {ls : Lo} {st : List Va} {σ : Sg} {Q : Rs → Sg → Prop} {z : Int} {g j : Nat} : Wx d 47 5 ls (vi z :: vr g j :: st) σ Q ↔ (isO g j 4 ∧ rf g j 4 = none) ∧ Wx d 47 8 ls st (up σ g j 4 z) Q := u_put (w := (4, 4)) d47_5 rfl rfl rfl
theorem d47_8 : decode (mB 47) 8 = .ok (.aload_n 0, 1) := by decide +kernel
theorem u47_8 {d : Nat} {ls : Lo} {st : List Va} {σ : Sg} {Q : Rs → Sg → Prop} : Wx d 47 8 ls st σ Q ↔ Lr (lget ls 0) (fun z => Wx d 47 9 ls (.inr (.inl z) :: st) σ Q) := u_aload_n d47_8
theorem d47_9 : decode (mB 47) 9 = .ok (.aload_n 1, 1) := by decide +kernel
theorem u47_9 {d : Nat} {ls : Lo} {st : List Va} {σ : Sg} {Q : Rs → Sg → Prop} : Wx d 47 9 ls st σ Q ↔ Lr (lget ls 1) (fun z => Wx d 47 10 ls (.inr (.inl z) :: st) σ Q) := u_aload_n d47_9
theorem d47_10 : decode (mB 47) 10 = .ok (.getfield 31, 3) := by decide +kernel
theorem u47_10 {d : Nat} {ls : Lo} {st : List Va} {σ : Sg} {Q : Rs → Sg → Prop} {g j : Nat} : Wx d 47 10 ls (vr g j :: st) σ Q ↔ isO g j 3 ∧ Wx d 47 13 ls (fvv σ g j 13 :: st) σ Q := u_get (w := (3, 13)) d47_10 rfl
theorem d47_13 : decode (mB 47) 13 = .ok (.putfield 34, 3) := by decide +kernel
theorem u47_13 {d : Nat} {ls : Lo} {st : List Va} {σ : Sg} {Q : Rs → Sg → Prop} {z : Int} {g j : Nat} : Wx d 47 13 ls (vi z :: vr g j :: st) σ Q ↔ (isO g j 4 ∧ rf g j 5 = none) ∧ Wx d 47 16 ls st (up σ g j 5 z) Q := u_put (w := (4, 5)) d47_13 rfl rfl rfl
theorem d47_16 : decode (mB 47) 16 = .ok (.iconst 0, 1) := by decide +kernel
theorem u47_16 {d : Nat} {ls : Lo} {st : List Va} {σ : Sg} {Q : Rs → Sg → Prop} : Wx d 47 16 ls st σ Q ↔ Wx d 47 17 ls (vi 0 :: st) σ Q := u_iconst d47_16
theorem d47_17 : decode (mB 47) 17 = .ok (.istore_n 3, 1) := by decide +kernel
theorem u47_17 {d : Nat} {ls : Lo} {st : List Va} {σ : Sg} {Q : Rs → Sg → Prop} {z : Int} : Wx d 47 17 ls (vi z :: st) σ Q ↔ Wx d 47 18 (lset ls 3 (vi z)) st σ Q := u_istore_n d47_17 (by decide)
theorem d47_18 : decode (mB 47) 18 = .ok (.iload_n 3, 1) := by decide +kernel
theorem u47_18 {d : Nat} {ls : Lo} {st : List Va} {σ : Sg} {Q : Rs → Sg → Prop} : Wx d 47 18 ls st σ Q ↔ Li (lget ls 3) (fun z => Wx d 47 19 ls (vi z :: st) σ Q) := u_iload_n d47_18
theorem d47_19 : decode (mB 47) 19 = .ok (.iconst 4, 1) := by decide +kernel
theorem u47_19 {d : Nat} {ls : Lo} {st : List Va} {σ : Sg} {Q : Rs → Sg → Prop} : Wx d 47 19 ls st σ Q ↔ Wx d 47 20 ls (vi 4 :: st) σ Q := u_iconst d47_19
theorem d47_20 : decode (mB 47) 20 = .ok (.if_icmp .ge 37, 3) := by decide +kernel
theorem u47_20 {d : Nat} {ls : Lo} {st : List Va} {σ : Sg} {Q : Rs → Sg → Prop} {a b : Int} (h : -2147483648 ≤ a ∧ a ≤ 2147483647) (h2 : -2147483648 ≤ b ∧ b ≤ 2147483647) : Wx d 47 20 ls (vi b :: vi a :: st) σ Q ↔ if b ≤ a then Wx d 47 57 ls st σ Q else Wx d 47 23 ls st σ Q := u_icge d47_20 (by decide) h h2
theorem d47_23 : decode (mB 47) 23 = .ok (.aload_n 0, 1) := by decide +kernel
theorem u47_23 {d : Nat} {ls : Lo} {st : List Va} {σ : Sg} {Q : Rs → Sg → Prop} : Wx d 47 23 ls st σ Q ↔ Lr (lget ls 0) (fun z => Wx d 47 24 ls (.inr (.inl z) :: st) σ Q) := u_aload_n d47_23
theorem d47_24 : decode (mB 47) 24 = .ok (.getfield 9, 3) := by decide +kernel
theorem u47_24 {d : Nat} {ls : Lo} {st : List Va} {σ : Sg} {Q : Rs → Sg → Prop} {g j : Nat} : Wx d 47 24 ls (vr g j :: st) σ Q ↔ isO g j 4 ∧ Wx d 47 27 ls (fvv σ g j 0 :: st) σ Q := u_get (w := (4, 0)) d47_24 rfl
theorem d47_27 : decode (mB 47) 27 = .ok (.iload_n 3, 1) := by decide +kernel
theorem u47_27 {d : Nat} {ls : Lo} {st : List Va} {σ : Sg} {Q : Rs → Sg → Prop} : Wx d 47 27 ls st σ Q ↔ Li (lget ls 3) (fun z => Wx d 47 28 ls (vi z :: st) σ Q) := u_iload_n d47_27
theorem d47_28 : decode (mB 47) 28 = .ok (.aload_n 1, 1) := by decide +kernel
theorem u47_28 {d : Nat} {ls : Lo} {st : List Va} {σ : Sg} {Q : Rs → Sg → Prop} : Wx d 47 28 ls st σ Q ↔ Lr (lget ls 1) (fun z => Wx d 47 29 ls (.inr (.inl z) :: st) σ Q) := u_aload_n d47_28
theorem d47_29 : decode (mB 47) 29 = .ok (.iload_n 2, 1) := by decide +kernel
theorem u47_29 {d : Nat} {ls : Lo} {st : List Va} {σ : Sg} {Q : Rs → Sg → Prop} : Wx d 47 29 ls st σ Q ↔ Li (lget ls 2) (fun z => Wx d 47 30 ls (vi z :: st) σ Q) := u_iload_n d47_29
theorem d47_30 : decode (mB 47) 30 = .ok (.iload_n 3, 1) := by decide +kernel
theorem u47_30 {d : Nat} {ls : Lo} {st : List Va} {σ : Sg} {Q : Rs → Sg → Prop} : Wx d 47 30 ls st σ Q ↔ Li (lget ls 3) (fun z => Wx d 47 31 ls (vi z :: st) σ Q) := u_iload_n d47_30
theorem d47_31 : decode (mB 47) 31 = .ok (.invokevirtual 35, 3) := by decide +kernel
theorem u47_31 {d : Nat} {ls : Lo} {st : List Va} {σ : Sg} {Q : Rs → Sg → Prop} {g j : Nat} {a1 a2 : Va} : Wx (d + 1) 47 31 ls (a2 :: a1 :: vr g j :: st) σ Q ↔ (isO g j 3 ∧ st.length ≤ 4 ∧ nlg [a2, a1] = true) ∧ Wm d 43 [vr g j, a1, a2] σ (Kc (d + 1) 47 34 ls st Q) := u_inv2 d47_31 rfl rfl rfl
theorem d47_34 : decode (mB 47) 34 = .ok (.iastore, 1) := by decide +kernel
theorem u47_34 {d : Nat} {ls : Lo} {st : List Va} {σ : Sg} {Q : Rs → Sg → Prop} {x z : Int} {g j : Nat} : Wx d 47 34 ls (vi x :: vi z :: vr g j :: st) σ Q ↔ isA g j 0 z ∧ Wx d 47 35 ls st (up σ g j z.toNat x) Q := u_iast d47_34
theorem d47_35 : decode (mB 47) 35 = .ok (.aload_n 0, 1) := by decide +kernel
theorem u47_35 {d : Nat} {ls : Lo} {st : List Va} {σ : Sg} {Q : Rs → Sg → Prop} : Wx d 47 35 ls st σ Q ↔ Lr (lget ls 0) (fun z => Wx d 47 36 ls (.inr (.inl z) :: st) σ Q) := u_aload_n d47_35
theorem d47_36 : decode (mB 47) 36 = .ok (.getfield 18, 3) := by decide +kernel
theorem u47_36 {d : Nat} {ls : Lo} {st : List Va} {σ : Sg} {Q : Rs → Sg → Prop} {g j : Nat} : Wx d 47 36 ls (vr g j :: st) σ Q ↔ isO g j 4 ∧ Wx d 47 39 ls (fvv σ g j 2 :: st) σ Q := u_get (w := (4, 2)) d47_36 rfl
theorem d47_39 : decode (mB 47) 39 = .ok (.iload_n 3, 1) := by decide +kernel
theorem u47_39 {d : Nat} {ls : Lo} {st : List Va} {σ : Sg} {Q : Rs → Sg → Prop} : Wx d 47 39 ls st σ Q ↔ Li (lget ls 3) (fun z => Wx d 47 40 ls (vi z :: st) σ Q) := u_iload_n d47_39
theorem d47_40 : decode (mB 47) 40 = .ok (.aload_n 1, 1) := by decide +kernel
theorem u47_40 {d : Nat} {ls : Lo} {st : List Va} {σ : Sg} {Q : Rs → Sg → Prop} : Wx d 47 40 ls st σ Q ↔ Lr (lget ls 1) (fun z => Wx d 47 41 ls (.inr (.inl z) :: st) σ Q) := u_aload_n d47_40
theorem d47_41 : decode (mB 47) 41 = .ok (.aload_n 0, 1) := by decide +kernel
theorem u47_41 {d : Nat} {ls : Lo} {st : List Va} {σ : Sg} {Q : Rs → Sg → Prop} : Wx d 47 41 ls st σ Q ↔ Lr (lget ls 0) (fun z => Wx d 47 42 ls (.inr (.inl z) :: st) σ Q) := u_aload_n d47_41
theorem d47_42 : decode (mB 47) 42 = .ok (.getfield 9, 3) := by decide +kernel
theorem u47_42 {d : Nat} {ls : Lo} {st : List Va} {σ : Sg} {Q : Rs → Sg → Prop} {g j : Nat} : Wx d 47 42 ls (vr g j :: st) σ Q ↔ isO g j 4 ∧ Wx d 47 45 ls (fvv σ g j 0 :: st) σ Q := u_get (w := (4, 0)) d47_42 rfl
theorem d47_45 : decode (mB 47) 45 = .ok (.iload_n 3, 1) := by decide +kernel
theorem u47_45 {d : Nat} {ls : Lo} {st : List Va} {σ : Sg} {Q : Rs → Sg → Prop} : Wx d 47 45 ls st σ Q ↔ Li (lget ls 3) (fun z => Wx d 47 46 ls (vi z :: st) σ Q) := u_iload_n d47_45
theorem d47_46 : decode (mB 47) 46 = .ok (.iaload, 1) := by decide +kernel
theorem u47_46 {d : Nat} {ls : Lo} {st : List Va} {σ : Sg} {Q : Rs → Sg → Prop} {z : Int} {g j : Nat} : Wx d 47 46 ls (vi z :: vr g j :: st) σ Q ↔ On (ial σ g j z) (fun x => Wx d 47 47 ls (vi x :: st) σ Q) := u_iald d47_46
theorem d47_47 : decode (mB 47) 47 = .ok (.invokevirtual 39, 3) := by decide +kernel
theorem u47_47 {d : Nat} {ls : Lo} {st : List Va} {σ : Sg} {Q : Rs → Sg → Prop} {g j : Nat} {a1 : Va} : Wx (d + 1) 47 47 ls (a1 :: vr g j :: st) σ Q ↔ (isO g j 3 ∧ st.length ≤ 4 ∧ nlg [a1] = true) ∧ Wm d 36 [vr g j, a1] σ (Kc (d + 1) 47 50 ls st Q) := u_inv1 d47_47 rfl rfl rfl
theorem d47_50 : decode (mB 47) 50 = .ok (.iastore, 1) := by decide +kernel
theorem u47_50 {d : Nat} {ls : Lo} {st : List Va} {σ : Sg} {Q : Rs → Sg → Prop} {x z : Int} {g j : Nat} : Wx d 47 50 ls (vi x :: vi z :: vr g j :: st) σ Q ↔ isA g j 0 z ∧ Wx d 47 51 ls st (up σ g j z.toNat x) Q := u_iast d47_50
theorem d47_51 : decode (mB 47) 51 = .ok (.iinc 3 1, 3) := by decide +kernel
theorem u47_51 {d : Nat} {ls : Lo} {st : List Va} {σ : Sg} {Q : Rs → Sg → Prop} : Wx d 47 51 ls st σ Q ↔ Li (lget ls 3) (fun z => Wx d 47 54 (lset ls 3 (vi (z + 1))) st σ Q) := u_iinc d47_51 (by decide)
theorem d47_54 : decode (mB 47) 54 = .ok (.goto (-36), 3) := by decide +kernel
theorem u47_54 {d : Nat} {ls : Lo} {st : List Va} {σ : Sg} {Q : Rs → Sg → Prop} : Wx d 47 54 ls st σ Q ↔ Wx d 47 18 ls st σ Q := u_goto d47_54 (by decide)
theorem d47_57 : decode (mB 47) 57 = .ok (.return_, 1) := by decide +kernel
theorem u47_57 {d : Nat} {ls : Lo} {σ : Sg} {Q : Rs → Sg → Prop} : Wx d 47 57 ls [] σ Q ↔ Q (.inl none) σ := u_vret d47_57 rfl
/-! 48: FiguredBass$Move.endAt(LFiguredBass$Chord;I)V -/
theorem d48_0 : decode (mB 48) 0 = .ok (.iconst 0, 1) := by decide +kernel
theorem u48_0 {d : Nat} {ls : Lo} {st : List Va} {σ : Sg} {Q : Rs → Sg → Prop} : Wx d 48 0 ls st σ Q ↔ Wx d 48 1 ls (vi 0 :: st) σ Q := u_iconst d48_0
theorem d48_1 : decode (mB 48) 1 = .ok (.istore_n 3, 1) := by decide +kernel
theorem u48_1 {d : Nat} {ls : Lo} {st : List Va} {σ : Sg} {Q : Rs → Sg → Prop} {z : Int} : Wx d 48 1 ls (vi z :: st) σ Q ↔ Wx d 48 2 (lset ls 3 (vi z)) st σ Q := u_istore_n d48_1 (by decide)
theorem d48_2 : decode (mB 48) 2 = .ok (.iload_n 3, 1) := by decide +kernel
theorem u48_2 {d : Nat} {ls : Lo} {st : List Va} {σ : Sg} {Q : Rs → Sg → Prop} : Wx d 48 2 ls st σ Q ↔ Li (lget ls 3) (fun z => Wx d 48 3 ls (vi z :: st) σ Q) := u_iload_n d48_2
theorem d48_3 : decode (mB 48) 3 = .ok (.iconst 4, 1) := by decide +kernel
theorem u48_3 {d : Nat} {ls : Lo} {st : List Va} {σ : Sg} {Q : Rs → Sg → Prop} : Wx d 48 3 ls st σ Q ↔ Wx d 48 4 ls (vi 4 :: st) σ Q := u_iconst d48_3
theorem d48_4 : decode (mB 48) 4 = .ok (.if_icmp .ge 37, 3) := by decide +kernel
theorem u48_4 {d : Nat} {ls : Lo} {st : List Va} {σ : Sg} {Q : Rs → Sg → Prop} {a b : Int} (h : -2147483648 ≤ a ∧ a ≤ 2147483647) (h2 : -2147483648 ≤ b ∧ b ≤ 2147483647) : Wx d 48 4 ls (vi b :: vi a :: st) σ Q ↔ if b ≤ a then Wx d 48 41 ls st σ Q else Wx d 48 7 ls st σ Q := u_icge d48_4 (by decide) h h2
theorem d48_7 : decode (mB 48) 7 = .ok (.aload_n 0, 1) := by decide +kernel
theorem u48_7 {d : Nat} {ls : Lo} {st : List Va} {σ : Sg} {Q : Rs → Sg → Prop} : Wx d 48 7 ls st σ Q ↔ Lr (lget ls 0) (fun z => Wx d 48 8 ls (.inr (.inl z) :: st) σ Q) := u_aload_n d48_7
theorem d48_8 : decode (mB 48) 8 = .ok (.getfield 15, 3) := by decide +kernel
theorem u48_8 {d : Nat} {ls : Lo} {st : List Va} {σ : Sg} {Q : Rs → Sg → Prop} {g j : Nat} : Wx d 48 8 ls (vr g j :: st) σ Q ↔ isO g j 4 ∧ Wx d 48 11 ls (fvv σ g j 1 :: st) σ Q := u_get (w := (4, 1)) d48_8 rfl
theorem d48_11 : decode (mB 48) 11 = .ok (.iload_n 3, 1) := by decide +kernel
theorem u48_11 {d : Nat} {ls : Lo} {st : List Va} {σ : Sg} {Q : Rs → Sg → Prop} : Wx d 48 11 ls st σ Q ↔ Li (lget ls 3) (fun z => Wx d 48 12 ls (vi z :: st) σ Q) := u_iload_n d48_11
theorem d48_12 : decode (mB 48) 12 = .ok (.aload_n 1, 1) := by decide +kernel
theorem u48_12 {d : Nat} {ls : Lo} {st : List Va} {σ : Sg} {Q : Rs → Sg → Prop} : Wx d 48 12 ls st σ Q ↔ Lr (lget ls 1) (fun z => Wx d 48 13 ls (.inr (.inl z) :: st) σ Q) := u_aload_n d48_12
theorem d48_13 : decode (mB 48) 13 = .ok (.iload_n 2, 1) := by decide +kernel
theorem u48_13 {d : Nat} {ls : Lo} {st : List Va} {σ : Sg} {Q : Rs → Sg → Prop} : Wx d 48 13 ls st σ Q ↔ Li (lget ls 2) (fun z => Wx d 48 14 ls (vi z :: st) σ Q) := u_iload_n d48_13
theorem d48_14 : decode (mB 48) 14 = .ok (.iload_n 3, 1) := by decide +kernel
theorem u48_14 {d : Nat} {ls : Lo} {st : List Va} {σ : Sg} {Q : Rs → Sg → Prop} : Wx d 48 14 ls st σ Q ↔ Li (lget ls 3) (fun z => Wx d 48 15 ls (vi z :: st) σ Q) := u_iload_n d48_14
theorem d48_15 : decode (mB 48) 15 = .ok (.invokevirtual 35, 3) := by decide +kernel
theorem u48_15 {d : Nat} {ls : Lo} {st : List Va} {σ : Sg} {Q : Rs → Sg → Prop} {g j : Nat} {a1 a2 : Va} : Wx (d + 1) 48 15 ls (a2 :: a1 :: vr g j :: st) σ Q ↔ (isO g j 3 ∧ st.length ≤ 4 ∧ nlg [a2, a1] = true) ∧ Wm d 43 [vr g j, a1, a2] σ (Kc (d + 1) 48 18 ls st Q) := u_inv2 d48_15 rfl rfl rfl
theorem d48_18 : decode (mB 48) 18 = .ok (.iastore, 1) := by decide +kernel
theorem u48_18 {d : Nat} {ls : Lo} {st : List Va} {σ : Sg} {Q : Rs → Sg → Prop} {x z : Int} {g j : Nat} : Wx d 48 18 ls (vi x :: vi z :: vr g j :: st) σ Q ↔ isA g j 0 z ∧ Wx d 48 19 ls st (up σ g j z.toNat x) Q := u_iast d48_18
theorem d48_19 : decode (mB 48) 19 = .ok (.aload_n 0, 1) := by decide +kernel
theorem u48_19 {d : Nat} {ls : Lo} {st : List Va} {σ : Sg} {Q : Rs → Sg → Prop} : Wx d 48 19 ls st σ Q ↔ Lr (lget ls 0) (fun z => Wx d 48 20 ls (.inr (.inl z) :: st) σ Q) := u_aload_n d48_19
theorem d48_20 : decode (mB 48) 20 = .ok (.getfield 21, 3) := by decide +kernel
theorem u48_20 {d : Nat} {ls : Lo} {st : List Va} {σ : Sg} {Q : Rs → Sg → Prop} {g j : Nat} : Wx d 48 20 ls (vr g j :: st) σ Q ↔ isO g j 4 ∧ Wx d 48 23 ls (fvv σ g j 3 :: st) σ Q := u_get (w := (4, 3)) d48_20 rfl
theorem d48_23 : decode (mB 48) 23 = .ok (.iload_n 3, 1) := by decide +kernel
theorem u48_23 {d : Nat} {ls : Lo} {st : List Va} {σ : Sg} {Q : Rs → Sg → Prop} : Wx d 48 23 ls st σ Q ↔ Li (lget ls 3) (fun z => Wx d 48 24 ls (vi z :: st) σ Q) := u_iload_n d48_23
theorem d48_24 : decode (mB 48) 24 = .ok (.aload_n 1, 1) := by decide +kernel
theorem u48_24 {d : Nat} {ls : Lo} {st : List Va} {σ : Sg} {Q : Rs → Sg → Prop} : Wx d 48 24 ls st σ Q ↔ Lr (lget ls 1) (fun z => Wx d 48 25 ls (.inr (.inl z) :: st) σ Q) := u_aload_n d48_24
theorem d48_25 : decode (mB 48) 25 = .ok (.aload_n 0, 1) := by decide +kernel
theorem u48_25 {d : Nat} {ls : Lo} {st : List Va} {σ : Sg} {Q : Rs → Sg → Prop} : Wx d 48 25 ls st σ Q ↔ Lr (lget ls 0) (fun z => Wx d 48 26 ls (.inr (.inl z) :: st) σ Q) := u_aload_n d48_25
theorem d48_26 : decode (mB 48) 26 = .ok (.getfield 15, 3) := by decide +kernel
theorem u48_26 {d : Nat} {ls : Lo} {st : List Va} {σ : Sg} {Q : Rs → Sg → Prop} {g j : Nat} : Wx d 48 26 ls (vr g j :: st) σ Q ↔ isO g j 4 ∧ Wx d 48 29 ls (fvv σ g j 1 :: st) σ Q := u_get (w := (4, 1)) d48_26 rfl
theorem d48_29 : decode (mB 48) 29 = .ok (.iload_n 3, 1) := by decide +kernel
theorem u48_29 {d : Nat} {ls : Lo} {st : List Va} {σ : Sg} {Q : Rs → Sg → Prop} : Wx d 48 29 ls st σ Q ↔ Li (lget ls 3) (fun z => Wx d 48 30 ls (vi z :: st) σ Q) := u_iload_n d48_29
theorem d48_30 : decode (mB 48) 30 = .ok (.iaload, 1) := by decide +kernel
theorem u48_30 {d : Nat} {ls : Lo} {st : List Va} {σ : Sg} {Q : Rs → Sg → Prop} {z : Int} {g j : Nat} : Wx d 48 30 ls (vi z :: vr g j :: st) σ Q ↔ On (ial σ g j z) (fun x => Wx d 48 31 ls (vi x :: st) σ Q) := u_iald d48_30
theorem d48_31 : decode (mB 48) 31 = .ok (.invokevirtual 39, 3) := by decide +kernel
theorem u48_31 {d : Nat} {ls : Lo} {st : List Va} {σ : Sg} {Q : Rs → Sg → Prop} {g j : Nat} {a1 : Va} : Wx (d + 1) 48 31 ls (a1 :: vr g j :: st) σ Q ↔ (isO g j 3 ∧ st.length ≤ 4 ∧ nlg [a1] = true) ∧ Wm d 36 [vr g j, a1] σ (Kc (d + 1) 48 34 ls st Q) := u_inv1 d48_31 rfl rfl rfl
theorem d48_34 : decode (mB 48) 34 = .ok (.iastore, 1) := by decide +kernel
theorem u48_34 {d : Nat} {ls : Lo} {st : List Va} {σ : Sg} {Q : Rs → Sg → Prop} {x z : Int} {g j : Nat} : Wx d 48 34 ls (vi x :: vi z :: vr g j :: st) σ Q ↔ isA g j 0 z ∧ Wx d 48 35 ls st (up σ g j z.toNat x) Q := u_iast d48_34
theorem d48_35 : decode (mB 48) 35 = .ok (.iinc 3 1, 3) := by decide +kernel
theorem u48_35 {d : Nat} {ls : Lo} {st : List Va} {σ : Sg} {Q : Rs → Sg → Prop} : Wx d 48 35 ls st σ Q ↔ Li (lget ls 3) (fun z => Wx d 48 38 (lset ls 3 (vi (z + 1))) st σ Q) := u_iinc d48_35 (by decide)
theorem d48_38 : decode (mB 48) 38 = .ok (.goto (-36), 3) := by decide +kernel
theorem u48_38 {d : Nat} {ls : Lo} {st : List Va} {σ : Sg} {Q : Rs → Sg → Prop} : Wx d 48 38 ls st σ Q ↔ Wx d 48 2 ls st σ Q := u_goto d48_38 (by decide)
theorem d48_41 : decode (mB 48) 41 = .ok (.return_, 1) := by decide +kernel
theorem u48_41 {d : Nat} {ls : Lo} {σ : Sg} {Q : Rs → Sg → Prop} : Wx d 48 41 ls [] σ Q ↔ Q (.inl none) σ := u_vret d48_41 rfl
/-! 49: FiguredBass$Move.distance()I -/
theorem d49_0 : decode (mB 49) 0 = .ok (.iconst 0, 1) := by decide +kernel
theorem u49_0 {d : Nat} {ls : Lo} {st : List Va} {σ : Sg} {Q : Rs → Sg → Prop} : Wx d 49 0 ls st σ Q ↔ Wx d 49 1 ls (vi 0 :: st) σ Q := u_iconst d49_0
theorem d49_1 : decode (mB 49) 1 = .ok (.istore_n 1, 1) := by decide +kernel
theorem u49_1 {d : Nat} {ls : Lo} {st : List Va} {σ : Sg} {Q : Rs → Sg → Prop} {z : Int} : Wx d 49 1 ls (vi z :: st) σ Q ↔ Wx d 49 2 (lset ls 1 (vi z)) st σ Q := u_istore_n d49_1 (by decide)
theorem d49_2 : decode (mB 49) 2 = .ok (.iconst 0, 1) := by decide +kernel
theorem u49_2 {d : Nat} {ls : Lo} {st : List Va} {σ : Sg} {Q : Rs → Sg → Prop} : Wx d 49 2 ls st σ Q ↔ Wx d 49 3 ls (vi 0 :: st) σ Q := u_iconst d49_2
theorem d49_3 : decode (mB 49) 3 = .ok (.istore_n 2, 1) := by decide +kernel
theorem u49_3 {d : Nat} {ls : Lo} {st : List Va} {σ : Sg} {Q : Rs → Sg → Prop} {z : Int} : Wx d 49 3 ls (vi z :: st) σ Q ↔ Wx d 49 4 (lset ls 2 (vi z)) st σ Q := u_istore_n d49_3 (by decide)
theorem d49_4 : decode (mB 49) 4 = .ok (.iload_n 2, 1) := by decide +kernel
theorem u49_4 {d : Nat} {ls : Lo} {st : List Va} {σ : Sg} {Q : Rs → Sg → Prop} : Wx d 49 4 ls st σ Q ↔ Li (lget ls 2) (fun z => Wx d 49 5 ls (vi z :: st) σ Q) := u_iload_n d49_4
theorem d49_5 : decode (mB 49) 5 = .ok (.iconst 3, 1) := by decide +kernel
theorem u49_5 {d : Nat} {ls : Lo} {st : List Va} {σ : Sg} {Q : Rs → Sg → Prop} : Wx d 49 5 ls st σ Q ↔ Wx d 49 6 ls (vi 3 :: st) σ Q := u_iconst d49_5
theorem d49_6 : decode (mB 49) 6 = .ok (.if_icmp .ge 28, 3) := by decide +kernel
theorem u49_6 {d : Nat} {ls : Lo} {st : List Va} {σ : Sg} {Q : Rs → Sg → Prop} {a b : Int} (h : -2147483648 ≤ a ∧ a ≤ 2147483647) (h2 : -2147483648 ≤ b ∧ b ≤ 2147483647) : Wx d 49 6 ls (vi b :: vi a :: st) σ Q ↔ if b ≤ a then Wx d 49 34 ls st σ Q else Wx d 49 9 ls st σ Q := u_icge d49_6 (by decide) h h2
theorem d49_9 : decode (mB 49) 9 = .ok (.iload_n 1, 1) := by decide +kernel
theorem u49_9 {d : Nat} {ls : Lo} {st : List Va} {σ : Sg} {Q : Rs → Sg → Prop} : Wx d 49 9 ls st σ Q ↔ Li (lget ls 1) (fun z => Wx d 49 10 ls (vi z :: st) σ Q) := u_iload_n d49_9
theorem d49_10 : decode (mB 49) 10 = .ok (.aload_n 0, 1) := by decide +kernel
theorem u49_10 {d : Nat} {ls : Lo} {st : List Va} {σ : Sg} {Q : Rs → Sg → Prop} : Wx d 49 10 ls st σ Q ↔ Lr (lget ls 0) (fun z => Wx d 49 11 ls (.inr (.inl z) :: st) σ Q) := u_aload_n d49_10
theorem d49_11 : decode (mB 49) 11 = .ok (.getfield 15, 3) := by decide +kernel
theorem u49_11 {d : Nat} {ls : Lo} {st : List Va} {σ : Sg} {Q : Rs → Sg → Prop} {g j : Nat} : Wx d 49 11 ls (vr g j :: st) σ Q ↔ isO g j 4 ∧ Wx d 49 14 ls (fvv σ g j 1 :: st) σ Q := u_get (w := (4, 1)) d49_11 rfl
theorem d49_14 : decode (mB 49) 14 = .ok (.iload_n 2, 1) := by decide +kernel
theorem u49_14 {d : Nat} {ls : Lo} {st : List Va} {σ : Sg} {Q : Rs → Sg → Prop} : Wx d 49 14 ls st σ Q ↔ Li (lget ls 2) (fun z => Wx d 49 15 ls (vi z :: st) σ Q) := u_iload_n d49_14
theorem d49_15 : decode (mB 49) 15 = .ok (.iaload, 1) := by decide +kernel
theorem u49_15 {d : Nat} {ls : Lo} {st : List Va} {σ : Sg} {Q : Rs → Sg → Prop} {z : Int} {g j : Nat} : Wx d 49 15 ls (vi z :: vr g j :: st) σ Q ↔ On (ial σ g j z) (fun x => Wx d 49 16 ls (vi x :: st) σ Q) := u_iald d49_15
theorem d49_16 : decode (mB 49) 16 = .ok (.aload_n 0, 1) := by decide +kernel
theorem u49_16 {d : Nat} {ls : Lo} {st : List Va} {σ : Sg} {Q : Rs → Sg → Prop} : Wx d 49 16 ls st σ Q ↔ Lr (lget ls 0) (fun z => Wx d 49 17 ls (.inr (.inl z) :: st) σ Q) := u_aload_n d49_16
theorem d49_17 : decode (mB 49) 17 = .ok (.getfield 9, 3) := by decide +kernel
theorem u49_17 {d : Nat} {ls : Lo} {st : List Va} {σ : Sg} {Q : Rs → Sg → Prop} {g j : Nat} : Wx d 49 17 ls (vr g j :: st) σ Q ↔ isO g j 4 ∧ Wx d 49 20 ls (fvv σ g j 0 :: st) σ Q := u_get (w := (4, 0)) d49_17 rfl
theorem d49_20 : decode (mB 49) 20 = .ok (.iload_n 2, 1) := by decide +kernel
theorem u49_20 {d : Nat} {ls : Lo} {st : List Va} {σ : Sg} {Q : Rs → Sg → Prop} : Wx d 49 20 ls st σ Q ↔ Li (lget ls 2) (fun z => Wx d 49 21 ls (vi z :: st) σ Q) := u_iload_n d49_20
theorem d49_21 : decode (mB 49) 21 = .ok (.iaload, 1) := by decide +kernel
theorem u49_21 {d : Nat} {ls : Lo} {st : List Va} {σ : Sg} {Q : Rs → Sg → Prop} {z : Int} {g j : Nat} : Wx d 49 21 ls (vi z :: vr g j :: st) σ Q ↔ On (ial σ g j z) (fun x => Wx d 49 22 ls (vi x :: st) σ Q) := u_iald d49_21
theorem d49_22 : decode (mB 49) 22 = .ok (.isub, 1) := by decide +kernel
theorem u49_22 {d : Nat} {ls : Lo} {st : List Va} {σ : Sg} {Q : Rs → Sg → Prop} {a b : Int} : Wx d 49 22 ls (vi b :: vi a :: st) σ Q ↔ Wx d 49 23 ls (vi (a - b) :: st) σ Q := u_isub d49_22
theorem d49_23 : decode (mB 49) 23 = .ok (.invokestatic 43, 3) := by decide +kernel
theorem u49_23 {d : Nat} {ls : Lo} {st : List Va} {σ : Sg} {Q : Rs → Sg → Prop} {a : Int} (h : -2147483647 ≤ a ∧ a ≤ 2147483647) (hl : st.length ≤ 4) : Wx d 49 23 ls (vi a :: st) σ Q ↔ Wx d 49 26 ls (vi (a.natAbs : Int) :: st) σ Q := u_abs d49_23 rfl h hl
theorem d49_26 : decode (mB 49) 26 = .ok (.iadd, 1) := by decide +kernel
theorem u49_26 {d : Nat} {ls : Lo} {st : List Va} {σ : Sg} {Q : Rs → Sg → Prop} {a b : Int} : Wx d 49 26 ls (vi b :: vi a :: st) σ Q ↔ Wx d 49 27 ls (vi (a + b) :: st) σ Q := u_iadd d49_26
theorem d49_27 : decode (mB 49) 27 = .ok (.istore_n 1, 1) := by decide +kernel
theorem u49_27 {d : Nat} {ls : Lo} {st : List Va} {σ : Sg} {Q : Rs → Sg → Prop} {z : Int} : Wx d 49 27 ls (vi z :: st) σ Q ↔ Wx d 49 28 (lset ls 1 (vi z)) st σ Q := u_istore_n d49_27 (by decide)
theorem d49_28 : decode (mB 49) 28 = .ok (.iinc 2 1, 3) := by decide +kernel
theorem u49_28 {d : Nat} {ls : Lo} {st : List Va} {σ : Sg} {Q : Rs → Sg → Prop} : Wx d 49 28 ls st σ Q ↔ Li (lget ls 2) (fun z => Wx d 49 31 (lset ls 2 (vi (z + 1))) st σ Q) := u_iinc d49_28 (by decide)
theorem d49_31 : decode (mB 49) 31 = .ok (.goto (-27), 3) := by decide +kernel
theorem u49_31 {d : Nat} {ls : Lo} {st : List Va} {σ : Sg} {Q : Rs → Sg → Prop} : Wx d 49 31 ls st σ Q ↔ Wx d 49 4 ls st σ Q := u_goto d49_31 (by decide)
theorem d49_34 : decode (mB 49) 34 = .ok (.iload_n 1, 1) := by decide +kernel
theorem u49_34 {d : Nat} {ls : Lo} {st : List Va} {σ : Sg} {Q : Rs → Sg → Prop} : Wx d 49 34 ls st σ Q ↔ Li (lget ls 1) (fun z => Wx d 49 35 ls (vi z :: st) σ Q) := u_iload_n d49_34
theorem d49_35 : decode (mB 49) 35 = .ok (.ireturn, 1) := by decide +kernel
theorem u49_35 {d : Nat} {ls : Lo} {σ : Sg} {Q : Rs → Sg → Prop} {z : Int} : Wx d 49 35 ls [vi z] σ Q ↔ Q (.inl (some (vi z))) σ := u_iret d49_35 rfl
/-! 50: FiguredBass$Move.keepsRules()Z -/
theorem d50_0 : decode (mB 50) 0 = .ok (.iconst 0, 1) := by decide +kernel
theorem u50_0 {d : Nat} {ls : Lo} {st : List Va} {σ : Sg} {Q : Rs → Sg → Prop} : Wx d 50 0 ls st σ Q ↔ Wx d 50 1 ls (vi 0 :: st) σ Q := u_iconst d50_0
theorem d50_1 : decode (mB 50) 1 = .ok (.istore_n 1, 1) := by decide +kernel
theorem u50_1 {d : Nat} {ls : Lo} {st : List Va} {σ : Sg} {Q : Rs → Sg → Prop} {z : Int} : Wx d 50 1 ls (vi z :: st) σ Q ↔ Wx d 50 2 (lset ls 1 (vi z)) st σ Q := u_istore_n d50_1 (by decide)
theorem d50_2 : decode (mB 50) 2 = .ok (.iload_n 1, 1) := by decide +kernel
theorem u50_2 {d : Nat} {ls : Lo} {st : List Va} {σ : Sg} {Q : Rs → Sg → Prop} : Wx d 50 2 ls st σ Q ↔ Li (lget ls 1) (fun z => Wx d 50 3 ls (vi z :: st) σ Q) := u_iload_n d50_2
theorem d50_3 : decode (mB 50) 3 = .ok (.iconst 4, 1) := by decide +kernel
theorem u50_3 {d : Nat} {ls : Lo} {st : List Va} {σ : Sg} {Q : Rs → Sg → Prop} : Wx d 50 3 ls st σ Q ↔ Wx d 50 4 ls (vi 4 :: st) σ Q := u_iconst d50_3
theorem d50_4 : decode (mB 50) 4 = .ok (.if_icmp .ge 61, 3) := by decide +kernel
theorem u50_4 {d : Nat} {ls : Lo} {st : List Va} {σ : Sg} {Q : Rs → Sg → Prop} {a b : Int} (h : -2147483648 ≤ a ∧ a ≤ 2147483647) (h2 : -2147483648 ≤ b ∧ b ≤ 2147483647) : Wx d 50 4 ls (vi b :: vi a :: st) σ Q ↔ if b ≤ a then Wx d 50 65 ls st σ Q else Wx d 50 7 ls st σ Q := u_icge d50_4 (by decide) h h2
theorem d50_7 : decode (mB 50) 7 = .ok (.aload_n 0, 1) := by decide +kernel
theorem u50_7 {d : Nat} {ls : Lo} {st : List Va} {σ : Sg} {Q : Rs → Sg → Prop} : Wx d 50 7 ls st σ Q ↔ Lr (lget ls 0) (fun z => Wx d 50 8 ls (.inr (.inl z) :: st) σ Q) := u_aload_n d50_7
theorem d50_8 : decode (mB 50) 8 = .ok (.iload_n 1, 1) := by decide +kernel
theorem u50_8 {d : Nat} {ls : Lo} {st : List Va} {σ : Sg} {Q : Rs → Sg → Prop} : Wx d 50 8 ls st σ Q ↔ Li (lget ls 1) (fun z => Wx d 50 9 ls (vi z :: st) σ Q) := u_iload_n d50_8
theorem d50_9 : decode (mB 50) 9 = .ok (.invokevirtual 48, 3) := by decide +kernel
theorem u50_9 {d : Nat} {ls : Lo} {st : List Va} {σ : Sg} {Q : Rs → Sg → Prop} {g j : Nat} {a1 : Va} : Wx (d + 1) 50 9 ls (a1 :: vr g j :: st) σ Q ↔ (isO g j 4 ∧ st.length ≤ 4 ∧ nlg [a1] = true) ∧ Wm d 52 [vr g j, a1] σ (Kc (d + 1) 50 12 ls st Q) := u_inv1 d50_9 rfl rfl rfl
theorem d50_12 : decode (mB 50) 12 = .ok (.ifCond .ne 19, 3) := by decide +kernel
theorem u50_12 {d : Nat} {ls : Lo} {st : List Va} {σ : Sg} {Q : Rs → Sg → Prop} {a : Int} (h : -2147483648 ≤ a ∧ a ≤ 2147483647) : Wx d 50 12 ls (vi a :: st) σ Q ↔ if ¬ a = 0 then Wx d 50 31 ls st σ Q else Wx d 50 15 ls st σ Q := u_ifne d50_12 (by decide) h
theorem d50_15 : decode (mB 50) 15 = .ok (.aload_n 0, 1) := by decide +kernel
theorem u50_15 {d : Nat} {ls : Lo} {st : List Va} {σ : Sg} {Q : Rs → Sg → Prop} : Wx d 50 15 ls st σ Q ↔ Lr (lget ls 0) (fun z => Wx d 50 16 ls (.inr (.inl z) :: st) σ Q) := u_aload_n d50_15
theorem d50_16 : decode (mB 50) 16 = .ok (.iload_n 1, 1) := by decide +kernel
theorem u50_16 {d : Nat} {ls : Lo} {st : List Va} {σ : Sg} {Q : Rs → Sg → Prop} : Wx d 50 16 ls st σ Q ↔ Li (lget ls 1) (fun z => Wx d 50 17 ls (vi z :: st) σ Q) := u_iload_n d50_16
theorem d50_17 : decode (mB 50) 17 = .ok (.invokevirtual 52, 3) := by decide +kernel
theorem u50_17 {d : Nat} {ls : Lo} {st : List Va} {σ : Sg} {Q : Rs → Sg → Prop} {g j : Nat} {a1 : Va} : Wx (d + 1) 50 17 ls (a1 :: vr g j :: st) σ Q ↔ (isO g j 4 ∧ st.length ≤ 4 ∧ nlg [a1] = true) ∧ Wm d 53 [vr g j, a1] σ (Kc (d + 1) 50 20 ls st Q) := u_inv1 d50_17 rfl rfl rfl
theorem d50_20 : decode (mB 50) 20 = .ok (.ifCond .ne 11, 3) := by decide +kernel
theorem u50_20 {d : Nat} {ls : Lo} {st : List Va} {σ : Sg} {Q : Rs → Sg → Prop} {a : Int} (h : -2147483648 ≤ a ∧ a ≤ 2147483647) : Wx d 50 20 ls (vi a :: st) σ Q ↔ if ¬ a = 0 then Wx d 50 31 ls st σ Q else Wx d 50 23 ls st σ Q := u_ifne d50_20 (by decide) h
theorem d50_23 : decode (mB 50) 23 = .ok (.aload_n 0, 1) := by decide +kernel
theorem u50_23 {d : Nat} {ls : Lo} {st : List Va} {σ : Sg} {Q : Rs → Sg → Prop} : Wx d 50 23 ls st σ Q ↔ Lr (lget ls 0) (fun z => Wx d 50 24 ls (.inr (.inl z) :: st) σ Q) := u_aload_n d50_23
theorem d50_24 : decode (mB 50) 24 = .ok (.iload_n 1, 1) := by decide +kernel
theorem u50_24 {d : Nat} {ls : Lo} {st : List Va} {σ : Sg} {Q : Rs → Sg → Prop} : Wx d 50 24 ls st σ Q ↔ Li (lget ls 1) (fun z => Wx d 50 25 ls (vi z :: st) σ Q) := u_iload_n d50_24
theorem d50_25 : decode (mB 50) 25 = .ok (.invokevirtual 55, 3) := by decide +kernel
theorem u50_25 {d : Nat} {ls : Lo} {st : List Va} {σ : Sg} {Q : Rs → Sg → Prop} {g j : Nat} {a1 : Va} : Wx (d + 1) 50 25 ls (a1 :: vr g j :: st) σ Q ↔ (isO g j 4 ∧ st.length ≤ 4 ∧ nlg [a1] = true) ∧ Wm d 54 [vr g j, a1] σ (Kc (d + 1) 50 28 ls st Q) := u_inv1 d50_25 rfl rfl rfl
theorem d50_28 : decode (mB 50) 28 = .ok (.ifCond .eq 5, 3) := by decide +kernel
theorem u50_28 {d : Nat} {ls : Lo} {st : List Va} {σ : Sg} {Q : Rs → Sg → Prop} {a : Int} (h : -2147483648 ≤ a ∧ a ≤ 2147483647) : Wx d 50 28 ls (vi a :: st) σ Q ↔ if a = 0 then Wx d 50 33 ls st σ Q else Wx d 50 31 ls st σ Q := u_ifeq d50_28 (by decide) h
theorem d50_31 : decode (mB 50) 31 = .ok (.iconst 0, 1) := by decide +kernel
theorem u50_31 {d : Nat} {ls : Lo} {st : List Va} {σ : Sg} {Q : Rs → Sg → Prop} : Wx d 50 31 ls st σ Q ↔ Wx d 50 32 ls (vi 0 :: st) σ Q := u_iconst d50_31
theorem d50_32 : decode (mB 50) 32 = .ok (.ireturn, 1) := by decide +kernel
theorem u50_32 {d : Nat} {ls : Lo} {σ : Sg} {Q : Rs → Sg → Prop} {z : Int} (h : z = 0 ∨ z = 1) : Wx d 50 32 ls [vi z] σ Q ↔ Q (.inl (some (vi z))) σ := u_zret d50_32 rfl h
theorem d50_33 : decode (mB 50) 33 = .ok (.iload_n 1, 1) := by decide +kernel
theorem u50_33 {d : Nat} {ls : Lo} {st : List Va} {σ : Sg} {Q : Rs → Sg → Prop} : Wx d 50 33 ls st σ Q ↔ Li (lget ls 1) (fun z => Wx d 50 34 ls (vi z :: st) σ Q) := u_iload_n d50_33
theorem d50_34 : decode (mB 50) 34 = .ok (.iconst 1, 1) := by decide +kernel
theorem u50_34 {d : Nat} {ls : Lo} {st : List Va} {σ : Sg} {Q : Rs → Sg → Prop} : Wx d 50 34 ls st σ Q ↔ Wx d 50 35 ls (vi 1 :: st) σ Q := u_iconst d50_34
theorem d50_35 : decode (mB 50) 35 = .ok (.iadd, 1) := by decide +kernel
theorem u50_35 {d : Nat} {ls : Lo} {st : List Va} {σ : Sg} {Q : Rs → Sg → Prop} {a b : Int} : Wx d 50 35 ls (vi b :: vi a :: st) σ Q ↔ Wx d 50 36 ls (vi (a + b) :: st) σ Q := u_iadd d50_35
theorem d50_36 : decode (mB 50) 36 = .ok (.istore_n 2, 1) := by decide +kernel
theorem u50_36 {d : Nat} {ls : Lo} {st : List Va} {σ : Sg} {Q : Rs → Sg → Prop} {z : Int} : Wx d 50 36 ls (vi z :: st) σ Q ↔ Wx d 50 37 (lset ls 2 (vi z)) st σ Q := u_istore_n d50_36 (by decide)
theorem d50_37 : decode (mB 50) 37 = .ok (.iload_n 2, 1) := by decide +kernel
theorem u50_37 {d : Nat} {ls : Lo} {st : List Va} {σ : Sg} {Q : Rs → Sg → Prop} : Wx d 50 37 ls st σ Q ↔ Li (lget ls 2) (fun z => Wx d 50 38 ls (vi z :: st) σ Q) := u_iload_n d50_37
theorem d50_38 : decode (mB 50) 38 = .ok (.iconst 4, 1) := by decide +kernel
theorem u50_38 {d : Nat} {ls : Lo} {st : List Va} {σ : Sg} {Q : Rs → Sg → Prop} : Wx d 50 38 ls st σ Q ↔ Wx d 50 39 ls (vi 4 :: st) σ Q := u_iconst d50_38
theorem d50_39 : decode (mB 50) 39 = .ok (.if_icmp .ge 20, 3) := by decide +kernel
theorem u50_39 {d : Nat} {ls : Lo} {st : List Va} {σ : Sg} {Q : Rs → Sg → Prop} {a b : Int} (h : -2147483648 ≤ a ∧ a ≤ 2147483647) (h2 : -2147483648 ≤ b ∧ b ≤ 2147483647) : Wx d 50 39 ls (vi b :: vi a :: st) σ Q ↔ if b ≤ a then Wx d 50 59 ls st σ Q else Wx d 50 42 ls st σ Q := u_icge d50_39 (by decide) h h2
theorem d50_42 : decode (mB 50) 42 = .ok (.aload_n 0, 1) := by decide +kernel
theorem u50_42 {d : Nat} {ls : Lo} {st : List Va} {σ : Sg} {Q : Rs → Sg → Prop} : Wx d 50 42 ls st σ Q ↔ Lr (lget ls 0) (fun z => Wx d 50 43 ls (.inr (.inl z) :: st) σ Q) := u_aload_n d50_42
theorem d50_43 : decode (mB 50) 43 = .ok (.iload_n 1, 1) := by decide +kernel
theorem u50_43 {d : Nat} {ls : Lo} {st : List Va} {σ : Sg} {Q : Rs → Sg → Prop} : Wx d 50 43 ls st σ Q ↔ Li (lget ls 1) (fun z => Wx d 50 44 ls (vi z :: st) σ Q) := u_iload_n d50_43
theorem d50_44 : decode (mB 50) 44 = .ok (.iload_n 2, 1) := by decide +kernel
theorem u50_44 {d : Nat} {ls : Lo} {st : List Va} {σ : Sg} {Q : Rs → Sg → Prop} : Wx d 50 44 ls st σ Q ↔ Li (lget ls 2) (fun z => Wx d 50 45 ls (vi z :: st) σ Q) := u_iload_n d50_44
theorem d50_45 : decode (mB 50) 45 = .ok (.invokevirtual 58, 3) := by decide +kernel
theorem u50_45 {d : Nat} {ls : Lo} {st : List Va} {σ : Sg} {Q : Rs → Sg → Prop} {g j : Nat} {a1 a2 : Va} : Wx (d + 1) 50 45 ls (a2 :: a1 :: vr g j :: st) σ Q ↔ (isO g j 4 ∧ st.length ≤ 4 ∧ nlg [a2, a1] = true) ∧ Wm d 51 [vr g j, a1, a2] σ (Kc (d + 1) 50 48 ls st Q) := u_inv2 d50_45 rfl rfl rfl
theorem d50_48 : decode (mB 50) 48 = .ok (.ifCond .eq 5, 3) := by decide +kernel
theorem u50_48 {d : Nat} {ls : Lo} {st : List Va} {σ : Sg} {Q : Rs → Sg → Prop} {a : Int} (h : -2147483648 ≤ a ∧ a ≤ 2147483647) : Wx d 50 48 ls (vi a :: st) σ Q ↔ if a = 0 then Wx d 50 53 ls st σ Q else Wx d 50 51 ls st σ Q := u_ifeq d50_48 (by decide) h
theorem d50_51 : decode (mB 50) 51 = .ok (.iconst 0, 1) := by decide +kernel
theorem u50_51 {d : Nat} {ls : Lo} {st : List Va} {σ : Sg} {Q : Rs → Sg → Prop} : Wx d 50 51 ls st σ Q ↔ Wx d 50 52 ls (vi 0 :: st) σ Q := u_iconst d50_51
theorem d50_52 : decode (mB 50) 52 = .ok (.ireturn, 1) := by decide +kernel
theorem u50_52 {d : Nat} {ls : Lo} {σ : Sg} {Q : Rs → Sg → Prop} {z : Int} (h : z = 0 ∨ z = 1) : Wx d 50 52 ls [vi z] σ Q ↔ Q (.inl (some (vi z))) σ := u_zret d50_52 rfl h
theorem d50_53 : decode (mB 50) 53 = .ok (.iinc 2 1, 3) := by decide +kernel
theorem u50_53 {d : Nat} {ls : Lo} {st : List Va} {σ : Sg} {Q : Rs → Sg → Prop} : Wx d 50 53 ls st σ Q ↔ Li (lget ls 2) (fun z => Wx d 50 56 (lset ls 2 (vi (z + 1))) st σ Q) := u_iinc d50_53 (by decide)
theorem d50_56 : decode (mB 50) 56 = .ok (.goto (-19), 3) := by decide +kernel
theorem u50_56 {d : Nat} {ls : Lo} {st : List Va} {σ : Sg} {Q : Rs → Sg → Prop} : Wx d 50 56 ls st σ Q ↔ Wx d 50 37 ls st σ Q := u_goto d50_56 (by decide)
theorem d50_59 : decode (mB 50) 59 = .ok (.iinc 1 1, 3) := by decide +kernel
theorem u50_59 {d : Nat} {ls : Lo} {st : List Va} {σ : Sg} {Q : Rs → Sg → Prop} : Wx d 50 59 ls st σ Q ↔ Li (lget ls 1) (fun z => Wx d 50 62 (lset ls 1 (vi (z + 1))) st σ Q) := u_iinc d50_59 (by decide)
theorem d50_62 : decode (mB 50) 62 = .ok (.goto (-60), 3) := by decide +kernel
theorem u50_62 {d : Nat} {ls : Lo} {st : List Va} {σ : Sg} {Q : Rs → Sg → Prop} : Wx d 50 62 ls st σ Q ↔ Wx d 50 2 ls st σ Q := u_goto d50_62 (by decide)
theorem d50_65 : decode (mB 50) 65 = .ok (.iconst 1, 1) := by decide +kernel
theorem u50_65 {d : Nat} {ls : Lo} {st : List Va} {σ : Sg} {Q : Rs → Sg → Prop} : Wx d 50 65 ls st σ Q ↔ Wx d 50 66 ls (vi 1 :: st) σ Q := u_iconst d50_65
theorem d50_66 : decode (mB 50) 66 = .ok (.ireturn, 1) := by decide +kernel
theorem u50_66 {d : Nat} {ls : Lo} {σ : Sg} {Q : Rs → Sg → Prop} {z : Int} (h : z = 0 ∨ z = 1) : Wx d 50 66 ls [vi z] σ Q ↔ Q (.inl (some (vi z))) σ := u_zret d50_66 rfl h
/-! 51: FiguredBass$Move.breaksParallel(II)Z -/
theorem d51_0 : decode (mB 51) 0 = .ok (.aload_n 0, 1) := by decide +kernel
theorem u51_0 {d : Nat} {ls : Lo} {st : List Va} {σ : Sg} {Q : Rs → Sg → Prop} : Wx d 51 0 ls st σ Q ↔ Lr (lget ls 0) (fun z => Wx d 51 1 ls (.inr (.inl z) :: st) σ Q) := u_aload_n d51_0
theorem d51_1 : decode (mB 51) 1 = .ok (.getfield 9, 3) := by decide +kernel
theorem u51_1 {d : Nat} {ls : Lo} {st : List Va} {σ : Sg} {Q : Rs → Sg → Prop} {g j : Nat} : Wx d 51 1 ls (vr g j :: st) σ Q ↔ isO g j 4 ∧ Wx d 51 4 ls (fvv σ g j 0 :: st) σ Q := u_get (w := (4, 0)) d51_1 rfl
theorem d51_4 : decode (mB 51) 4 = .ok (.iload_n 1, 1) := by decide +kernel
theorem u51_4 {d : Nat} {ls : Lo} {st : List Va} {σ : Sg} {Q : Rs → Sg → Prop} : Wx d 51 4 ls st σ Q ↔ Li (lget ls 1) (fun z => Wx d 51 5 ls (vi z :: st) σ Q) := u_iload_n d51_4
theorem d51_5 : decode (mB 51) 5 = .ok (.iaload, 1) := by decide +kernel
theorem u51_5 {d : Nat} {ls : Lo} {st : List Va} {σ : Sg} {Q : Rs → Sg → Prop} {z : Int} {g j : Nat} : Wx d 51 5 ls (vi z :: vr g j :: st) σ Q ↔ On (ial σ g j z) (fun x => Wx d 51 6 ls (vi x :: st) σ Q) := u_iald d51_5
theorem d51_6 : decode (mB 51) 6 = .ok (.aload_n 0, 1) := by decide +kernel
theorem u51_6 {d : Nat} {ls : Lo} {st : List Va} {σ : Sg} {Q : Rs → Sg → Prop} : Wx d 51 6 ls st σ Q ↔ Lr (lget ls 0) (fun z => Wx d 51 7 ls (.inr (.inl z) :: st) σ Q) := u_aload_n d51_6
theorem d51_7 : decode (mB 51) 7 = .ok (.getfield 9, 3) := by decide +kernel
theorem u51_7 {d : Nat} {ls : Lo} {st : List Va} {σ : Sg} {Q : Rs → Sg → Prop} {g j : Nat} : Wx d 51 7 ls (vr g j :: st) σ Q ↔ isO g j 4 ∧ Wx d 51 10 ls (fvv σ g j 0 :: st) σ Q := u_get (w := (4, 0)) d51_7 rfl
theorem d51_10 : decode (mB 51) 10 = .ok (.iload_n 2, 1) := by decide +kernel
theorem u51_10 {d : Nat} {ls : Lo} {st : List Va} {σ : Sg} {Q : Rs → Sg → Prop} : Wx d 51 10 ls st σ Q ↔ Li (lget ls 2) (fun z => Wx d 51 11 ls (vi z :: st) σ Q) := u_iload_n d51_10
theorem d51_11 : decode (mB 51) 11 = .ok (.iaload, 1) := by decide +kernel
theorem u51_11 {d : Nat} {ls : Lo} {st : List Va} {σ : Sg} {Q : Rs → Sg → Prop} {z : Int} {g j : Nat} : Wx d 51 11 ls (vi z :: vr g j :: st) σ Q ↔ On (ial σ g j z) (fun x => Wx d 51 12 ls (vi x :: st) σ Q) := u_iald d51_11
theorem d51_12 : decode (mB 51) 12 = .ok (.isub, 1) := by decide +kernel
theorem u51_12 {d : Nat} {ls : Lo} {st : List Va} {σ : Sg} {Q : Rs → Sg → Prop} {a b : Int} : Wx d 51 12 ls (vi b :: vi a :: st) σ Q ↔ Wx d 51 13 ls (vi (a - b) :: st) σ Q := u_isub d51_12
theorem d51_13 : decode (mB 51) 13 = .ok (.bipush 12, 2) := by decide +kernel
theorem u51_13 {d : Nat} {ls : Lo} {st : List Va} {σ : Sg} {Q : Rs → Sg → Prop} : Wx d 51 13 ls st σ Q ↔ Wx d 51 15 ls (vi 12 :: st) σ Q := u_bipush d51_13 (by decide)
theorem d51_15 : decode (mB 51) 15 = .ok (.invokestatic 62, 3) := by decide +kernel
theorem u51_15 {d : Nat} {ls : Lo} {st : List Va} {σ : Sg} {Q : Rs → Sg → Prop} {a1 a2 : Va} : Wx (d + 1) 51 15 ls (a2 :: a1 :: st) σ Q ↔ (st.length ≤ 4 ∧ nlg [a2, a1] = true) ∧ Wm d 128 [a1, a2] σ (Kc (d + 1) 51 18 ls st Q) := u_sta2 d51_15 rfl rfl rfl (by decide) (by decide) (by decide)
theorem d51_18 : decode (mB 51) 18 = .ok (.istore_n 3, 1) := by decide +kernel
theorem u51_18 {d : Nat} {ls : Lo} {st : List Va} {σ : Sg} {Q : Rs → Sg → Prop} {z : Int} : Wx d 51 18 ls (vi z :: st) σ Q ↔ Wx d 51 19 (lset ls 3 (vi z)) st σ Q := u_istore_n d51_18 (by decide)
theorem d51_19 : decode (mB 51) 19 = .ok (.iload_n 3, 1) := by decide +kernel
theorem u51_19 {d : Nat} {ls : Lo} {st : List Va} {σ : Sg} {Q : Rs → Sg → Prop} : Wx d 51 19 ls st σ Q ↔ Li (lget ls 3) (fun z => Wx d 51 20 ls (vi z :: st) σ Q) := u_iload_n d51_19
theorem d51_20 : decode (mB 51) 20 = .ok (.bipush 7, 2) := by decide +kernel
theorem u51_20 {d : Nat} {ls : Lo} {st : List Va} {σ : Sg} {Q : Rs → Sg → Prop} : Wx d 51 20 ls st σ Q ↔ Wx d 51 22 ls (vi 7 :: st) σ Q := u_bipush d51_20 (by decide)
theorem d51_22 : decode (mB 51) 22 = .ok (.if_icmp .eq 7, 3) := by decide +kernel
theorem u51_22 {d : Nat} {ls : Lo} {st : List Va} {σ : Sg} {Q : Rs → Sg → Prop} {a b : Int} (h : -2147483648 ≤ a ∧ a ≤ 2147483647) (h2 : -2147483648 ≤ b ∧ b ≤ 2147483647) : Wx d 51 22 ls (vi b :: vi a :: st) σ Q ↔ if a = b then Wx d 51 29 ls st σ Q else Wx d 51 25 ls st σ Q := u_iceq d51_22 (by decide) h h2
theorem d51_25 : decode (mB 51) 25 = .ok (.iload_n 3, 1) := by decide +kernel
theorem u51_25 {d : Nat} {ls : Lo} {st : List Va} {σ : Sg} {Q : Rs → Sg → Prop} : Wx d 51 25 ls st σ Q ↔ Li (lget ls 3) (fun z => Wx d 51 26 ls (vi z :: st) σ Q) := u_iload_n d51_25
theorem d51_26 : decode (mB 51) 26 = .ok (.ifCond .ne 59, 3) := by decide +kernel
theorem u51_26 {d : Nat} {ls : Lo} {st : List Va} {σ : Sg} {Q : Rs → Sg → Prop} {a : Int} (h : -2147483648 ≤ a ∧ a ≤ 2147483647) : Wx d 51 26 ls (vi a :: st) σ Q ↔ if ¬ a = 0 then Wx d 51 85 ls st σ Q else Wx d 51 29 ls st σ Q := u_ifne d51_26 (by decide) h
theorem d51_29 : decode (mB 51) 29 = .ok (.iload_n 3, 1) := by decide +kernel
theorem u51_29 {d : Nat} {ls : Lo} {st : List Va} {σ : Sg} {Q : Rs → Sg → Prop} : Wx d 51 29 ls st σ Q ↔ Li (lget ls 3) (fun z => Wx d 51 30 ls (vi z :: st) σ Q) := u_iload_n d51_29
theorem d51_30 : decode (mB 51) 30 = .ok (.aload_n 0, 1) := by decide +kernel
theorem u51_30 {d : Nat} {ls : Lo} {st : List Va} {σ : Sg} {Q : Rs → Sg → Prop} : Wx d 51 30 ls st σ Q ↔ Lr (lget ls 0) (fun z => Wx d 51 31 ls (.inr (.inl z) :: st) σ Q) := u_aload_n d51_30
theorem d51_31 : decode (mB 51) 31 = .ok (.getfield 15, 3) := by decide +kernel
theorem u51_31 {d : Nat} {ls : Lo} {st : List Va} {σ : Sg} {Q : Rs → Sg → Prop} {g j : Nat} : Wx d 51 31 ls (vr g j :: st) σ Q ↔ isO g j 4 ∧ Wx d 51 34 ls (fvv σ g j 1 :: st) σ Q := u_get (w := (4, 1)) d51_31 rfl
theorem d51_34 : decode (mB 51) 34 = .ok (.iload_n 1, 1) := by decide +kernel
theorem u51_34 {d : Nat} {ls : Lo} {st : List Va} {σ : Sg} {Q : Rs → Sg → Prop} : Wx d 51 34 ls st σ Q ↔ Li (lget ls 1) (fun z => Wx d 51 35 ls (vi z :: st) σ Q) := u_iload_n d51_34
theorem d51_35 : decode (mB 51) 35 = .ok (.iaload, 1) := by decide +kernel
theorem u51_35 {d : Nat} {ls : Lo} {st : List Va} {σ : Sg} {Q : Rs → Sg → Prop} {z : Int} {g j : Nat} : Wx d 51 35 ls (vi z :: vr g j :: st) σ Q ↔ On (ial σ g j z) (fun x => Wx d 51 36 ls (vi x :: st) σ Q) := u_iald d51_35
theorem d51_36 : decode (mB 51) 36 = .ok (.aload_n 0, 1) := by decide +kernel
theorem u51_36 {d : Nat} {ls : Lo} {st : List Va} {σ : Sg} {Q : Rs → Sg → Prop} : Wx d 51 36 ls st σ Q ↔ Lr (lget ls 0) (fun z => Wx d 51 37 ls (.inr (.inl z) :: st) σ Q) := u_aload_n d51_36
theorem d51_37 : decode (mB 51) 37 = .ok (.getfield 15, 3) := by decide +kernel
theorem u51_37 {d : Nat} {ls : Lo} {st : List Va} {σ : Sg} {Q : Rs → Sg → Prop} {g j : Nat} : Wx d 51 37 ls (vr g j :: st) σ Q ↔ isO g j 4 ∧ Wx d 51 40 ls (fvv σ g j 1 :: st) σ Q := u_get (w := (4, 1)) d51_37 rfl
theorem d51_40 : decode (mB 51) 40 = .ok (.iload_n 2, 1) := by decide +kernel
theorem u51_40 {d : Nat} {ls : Lo} {st : List Va} {σ : Sg} {Q : Rs → Sg → Prop} : Wx d 51 40 ls st σ Q ↔ Li (lget ls 2) (fun z => Wx d 51 41 ls (vi z :: st) σ Q) := u_iload_n d51_40
theorem d51_41 : decode (mB 51) 41 = .ok (.iaload, 1) := by decide +kernel
theorem u51_41 {d : Nat} {ls : Lo} {st : List Va} {σ : Sg} {Q : Rs → Sg → Prop} {z : Int} {g j : Nat} : Wx d 51 41 ls (vi z :: vr g j :: st) σ Q ↔ On (ial σ g j z) (fun x => Wx d 51 42 ls (vi x :: st) σ Q) := u_iald d51_41
theorem d51_42 : decode (mB 51) 42 = .ok (.isub, 1) := by decide +kernel
theorem u51_42 {d : Nat} {ls : Lo} {st : List Va} {σ : Sg} {Q : Rs → Sg → Prop} {a b : Int} : Wx d 51 42 ls (vi b :: vi a :: st) σ Q ↔ Wx d 51 43 ls (vi (a - b) :: st) σ Q := u_isub d51_42
theorem d51_43 : decode (mB 51) 43 = .ok (.bipush 12, 2) := by decide +kernel
theorem u51_43 {d : Nat} {ls : Lo} {st : List Va} {σ : Sg} {Q : Rs → Sg → Prop} : Wx d 51 43 ls st σ Q ↔ Wx d 51 45 ls (vi 12 :: st) σ Q := u_bipush d51_43 (by decide)
theorem d51_45 : decode (mB 51) 45 = .ok (.invokestatic 62, 3) := by decide +kernel
theorem u51_45 {d : Nat} {ls : Lo} {st : List Va} {σ : Sg} {Q : Rs → Sg → Prop} {a1 a2 : Va} : Wx (d + 1) 51 45 ls (a2 :: a1 :: st) σ Q ↔ (st.length ≤ 4 ∧ nlg [a2, a1] = true) ∧ Wm d 128 [a1, a2] σ (Kc (d + 1) 51 48 ls st Q) := u_sta2 d51_45 rfl rfl rfl (by decide) (by decide) (by decide)
theorem d51_48 : decode (mB 51) 48 = .ok (.if_icmp .ne 37, 3) := by decide +kernel
theorem u51_48 {d : Nat} {ls : Lo} {st : List Va} {σ : Sg} {Q : Rs → Sg → Prop} {a b : Int} (h : -2147483648 ≤ a ∧ a ≤ 2147483647) (h2 : -2147483648 ≤ b ∧ b ≤ 2147483647) : Wx d 51 48 ls (vi b :: vi a :: st) σ Q ↔ if ¬ a = b then Wx d 51 85 ls st σ Q else Wx d 51 51 ls st σ Q := u_icne d51_48 (by decide) h h2
theorem d51_51 : decode (mB 51) 51 = .ok (.aload_n 0, 1) := by decide +kernel
theorem u51_51 {d : Nat} {ls : Lo} {st : List Va} {σ : Sg} {Q : Rs → Sg → Prop} : Wx d 51 51 ls st σ Q ↔ Lr (lget ls 0) (fun z => Wx d 51 52 ls (.inr (.inl z) :: st) σ Q) := u_aload_n d51_51
theorem d51_52 : decode (mB 51) 52 = .ok (.getfield 9, 3) := by decide +kernel
theorem u51_52 {d : Nat} {ls : Lo} {st : List Va} {σ : Sg} {Q : Rs → Sg → Prop} {g j : Nat} : Wx d 51 52 ls (vr g j :: st) σ Q ↔ isO g j 4 ∧ Wx d 51 55 ls (fvv σ g j 0 :: st) σ Q := u_get (w := (4, 0)) d51_52 rfl
theorem d51_55 : decode (mB 51) 55 = .ok (.iload_n 1, 1) := by decide +kernel
theorem u51_55 {d : Nat} {ls : Lo} {st : List Va} {σ : Sg} {Q : Rs → Sg → Prop} : Wx d 51 55 ls st σ Q ↔ Li (lget ls 1) (fun z => Wx d 51 56 ls (vi z :: st) σ Q) := u_iload_n d51_55
theorem d51_56 : decode (mB 51) 56 = .ok (.iaload, 1) := by decide +kernel
theorem u51_56 {d : Nat} {ls : Lo} {st : List Va} {σ : Sg} {Q : Rs → Sg → Prop} {z : Int} {g j : Nat} : Wx d 51 56 ls (vi z :: vr g j :: st) σ Q ↔ On (ial σ g j z) (fun x => Wx d 51 57 ls (vi x :: st) σ Q) := u_iald d51_56
theorem d51_57 : decode (mB 51) 57 = .ok (.aload_n 0, 1) := by decide +kernel
theorem u51_57 {d : Nat} {ls : Lo} {st : List Va} {σ : Sg} {Q : Rs → Sg → Prop} : Wx d 51 57 ls st σ Q ↔ Lr (lget ls 0) (fun z => Wx d 51 58 ls (.inr (.inl z) :: st) σ Q) := u_aload_n d51_57
theorem d51_58 : decode (mB 51) 58 = .ok (.getfield 15, 3) := by decide +kernel
theorem u51_58 {d : Nat} {ls : Lo} {st : List Va} {σ : Sg} {Q : Rs → Sg → Prop} {g j : Nat} : Wx d 51 58 ls (vr g j :: st) σ Q ↔ isO g j 4 ∧ Wx d 51 61 ls (fvv σ g j 1 :: st) σ Q := u_get (w := (4, 1)) d51_58 rfl
theorem d51_61 : decode (mB 51) 61 = .ok (.iload_n 1, 1) := by decide +kernel
theorem u51_61 {d : Nat} {ls : Lo} {st : List Va} {σ : Sg} {Q : Rs → Sg → Prop} : Wx d 51 61 ls st σ Q ↔ Li (lget ls 1) (fun z => Wx d 51 62 ls (vi z :: st) σ Q) := u_iload_n d51_61
theorem d51_62 : decode (mB 51) 62 = .ok (.iaload, 1) := by decide +kernel
theorem u51_62 {d : Nat} {ls : Lo} {st : List Va} {σ : Sg} {Q : Rs → Sg → Prop} {z : Int} {g j : Nat} : Wx d 51 62 ls (vi z :: vr g j :: st) σ Q ↔ On (ial σ g j z) (fun x => Wx d 51 63 ls (vi x :: st) σ Q) := u_iald d51_62
theorem d51_63 : decode (mB 51) 63 = .ok (.if_icmp .eq 22, 3) := by decide +kernel
theorem u51_63 {d : Nat} {ls : Lo} {st : List Va} {σ : Sg} {Q : Rs → Sg → Prop} {a b : Int} (h : -2147483648 ≤ a ∧ a ≤ 2147483647) (h2 : -2147483648 ≤ b ∧ b ≤ 2147483647) : Wx d 51 63 ls (vi b :: vi a :: st) σ Q ↔ if a = b then Wx d 51 85 ls st σ Q else Wx d 51 66 ls st σ Q := u_iceq d51_63 (by decide) h h2
theorem d51_66 : decode (mB 51) 66 = .ok (.aload_n 0, 1) := by decide +kernel
theorem u51_66 {d : Nat} {ls : Lo} {st : List Va} {σ : Sg} {Q : Rs → Sg → Prop} : Wx d 51 66 ls st σ Q ↔ Lr (lget ls 0) (fun z => Wx d 51 67 ls (.inr (.inl z) :: st) σ Q) := u_aload_n d51_66
theorem d51_67 : decode (mB 51) 67 = .ok (.getfield 9, 3) := by decide +kernel
theorem u51_67 {d : Nat} {ls : Lo} {st : List Va} {σ : Sg} {Q : Rs → Sg → Prop} {g j : Nat} : Wx d 51 67 ls (vr g j :: st) σ Q ↔ isO g j 4 ∧ Wx d 51 70 ls (fvv σ g j 0 :: st) σ Q := u_get (w := (4, 0)) d51_67 rfl
theorem d51_70 : decode (mB 51) 70 = .ok (.iload_n 2, 1) := by decide +kernel
theorem u51_70 {d : Nat} {ls : Lo} {st : List Va} {σ : Sg} {Q : Rs → Sg → Prop} : Wx d 51 70 ls st σ Q ↔ Li (lget ls 2) (fun z => Wx d 51 71 ls (vi z :: st) σ Q) := u_iload_n d51_70
theorem d51_71 : decode (mB 51) 71 = .ok (.iaload, 1) := by decide +kernel
theorem u51_71 {d : Nat} {ls : Lo} {st : List Va} {σ : Sg} {Q : Rs → Sg → Prop} {z : Int} {g j : Nat} : Wx d 51 71 ls (vi z :: vr g j :: st) σ Q ↔ On (ial σ g j z) (fun x => Wx d 51 72 ls (vi x :: st) σ Q) := u_iald d51_71
theorem d51_72 : decode (mB 51) 72 = .ok (.aload_n 0, 1) := by decide +kernel
theorem u51_72 {d : Nat} {ls : Lo} {st : List Va} {σ : Sg} {Q : Rs → Sg → Prop} : Wx d 51 72 ls st σ Q ↔ Lr (lget ls 0) (fun z => Wx d 51 73 ls (.inr (.inl z) :: st) σ Q) := u_aload_n d51_72
theorem d51_73 : decode (mB 51) 73 = .ok (.getfield 15, 3) := by decide +kernel
theorem u51_73 {d : Nat} {ls : Lo} {st : List Va} {σ : Sg} {Q : Rs → Sg → Prop} {g j : Nat} : Wx d 51 73 ls (vr g j :: st) σ Q ↔ isO g j 4 ∧ Wx d 51 76 ls (fvv σ g j 1 :: st) σ Q := u_get (w := (4, 1)) d51_73 rfl
theorem d51_76 : decode (mB 51) 76 = .ok (.iload_n 2, 1) := by decide +kernel
theorem u51_76 {d : Nat} {ls : Lo} {st : List Va} {σ : Sg} {Q : Rs → Sg → Prop} : Wx d 51 76 ls st σ Q ↔ Li (lget ls 2) (fun z => Wx d 51 77 ls (vi z :: st) σ Q) := u_iload_n d51_76
theorem d51_77 : decode (mB 51) 77 = .ok (.iaload, 1) := by decide +kernel
theorem u51_77 {d : Nat} {ls : Lo} {st : List Va} {σ : Sg} {Q : Rs → Sg → Prop} {z : Int} {g j : Nat} : Wx d 51 77 ls (vi z :: vr g j :: st) σ Q ↔ On (ial σ g j z) (fun x => Wx d 51 78 ls (vi x :: st) σ Q) := u_iald d51_77
theorem d51_78 : decode (mB 51) 78 = .ok (.if_icmp .eq 7, 3) := by decide +kernel
theorem u51_78 {d : Nat} {ls : Lo} {st : List Va} {σ : Sg} {Q : Rs → Sg → Prop} {a b : Int} (h : -2147483648 ≤ a ∧ a ≤ 2147483647) (h2 : -2147483648 ≤ b ∧ b ≤ 2147483647) : Wx d 51 78 ls (vi b :: vi a :: st) σ Q ↔ if a = b then Wx d 51 85 ls st σ Q else Wx d 51 81 ls st σ Q := u_iceq d51_78 (by decide) h h2
theorem d51_81 : decode (mB 51) 81 = .ok (.iconst 1, 1) := by decide +kernel
theorem u51_81 {d : Nat} {ls : Lo} {st : List Va} {σ : Sg} {Q : Rs → Sg → Prop} : Wx d 51 81 ls st σ Q ↔ Wx d 51 82 ls (vi 1 :: st) σ Q := u_iconst d51_81
theorem d51_82 : decode (mB 51) 82 = .ok (.goto 4, 3) := by decide +kernel
theorem u51_82 {d : Nat} {ls : Lo} {st : List Va} {σ : Sg} {Q : Rs → Sg → Prop} : Wx d 51 82 ls st σ Q ↔ Wx d 51 86 ls st σ Q := u_goto d51_82 (by decide)
theorem d51_85 : decode (mB 51) 85 = .ok (.iconst 0, 1) := by decide +kernel
theorem u51_85 {d : Nat} {ls : Lo} {st : List Va} {σ : Sg} {Q : Rs → Sg → Prop} : Wx d 51 85 ls st σ Q ↔ Wx d 51 86 ls (vi 0 :: st) σ Q := u_iconst d51_85
theorem d51_86 : decode (mB 51) 86 = .ok (.ireturn, 1) := by decide +kernel
theorem u51_86 {d : Nat} {ls : Lo} {σ : Sg} {Q : Rs → Sg → Prop} {z : Int} (h : z = 0 ∨ z = 1) : Wx d 51 86 ls [vi z] σ Q ↔ Q (.inl (some (vi z))) σ := u_zret d51_86 rfl h
/-! 52: FiguredBass$Move.breaksLeading(I)Z -/
theorem d52_0 : decode (mB 52) 0 = .ok (.aload_n 0, 1) := by decide +kernel
theorem u52_0 {d : Nat} {ls : Lo} {st : List Va} {σ : Sg} {Q : Rs → Sg → Prop} : Wx d 52 0 ls st σ Q ↔ Lr (lget ls 0) (fun z => Wx d 52 1 ls (.inr (.inl z) :: st) σ Q) := u_aload_n d52_0
theorem d52_1 : decode (mB 52) 1 = .ok (.getfield 15, 3) := by decide +kernel
theorem u52_1 {d : Nat} {ls : Lo} {st : List Va} {σ : Sg} {Q : Rs → Sg → Prop} {g j : Nat} : Wx d 52 1 ls (vr g j :: st) σ Q ↔ isO g j 4 ∧ Wx d 52 4 ls (fvv σ g j 1 :: st) σ Q := u_get (w := (4, 1)) d52_1 rfl
theorem d52_4 : decode (mB 52) 4 = .ok (.iload_n 1, 1) := by decide +kernel
theorem u52_4 {d : Nat} {ls : Lo} {st : List Va} {σ : Sg} {Q : Rs → Sg → Prop} : Wx d 52 4 ls st σ Q ↔ Li (lget ls 1) (fun z => Wx d 52 5 ls (vi z :: st) σ Q) := u_iload_n d52_4
theorem d52_5 : decode (mB 52) 5 = .ok (.iaload, 1) := by decide +kernel
theorem u52_5 {d : Nat} {ls : Lo} {st : List Va} {σ : Sg} {Q : Rs → Sg → Prop} {z : Int} {g j : Nat} : Wx d 52 5 ls (vi z :: vr g j :: st) σ Q ↔ On (ial σ g j z) (fun x => Wx d 52 6 ls (vi x :: st) σ Q) := u_iald d52_5
theorem d52_6 : decode (mB 52) 6 = .ok (.aload_n 0, 1) := by decide +kernel
theorem u52_6 {d : Nat} {ls : Lo} {st : List Va} {σ : Sg} {Q : Rs → Sg → Prop} : Wx d 52 6 ls st σ Q ↔ Lr (lget ls 0) (fun z => Wx d 52 7 ls (.inr (.inl z) :: st) σ Q) := u_aload_n d52_6
theorem d52_7 : decode (mB 52) 7 = .ok (.getfield 9, 3) := by decide +kernel
theorem u52_7 {d : Nat} {ls : Lo} {st : List Va} {σ : Sg} {Q : Rs → Sg → Prop} {g j : Nat} : Wx d 52 7 ls (vr g j :: st) σ Q ↔ isO g j 4 ∧ Wx d 52 10 ls (fvv σ g j 0 :: st) σ Q := u_get (w := (4, 0)) d52_7 rfl
theorem d52_10 : decode (mB 52) 10 = .ok (.iload_n 1, 1) := by decide +kernel
theorem u52_10 {d : Nat} {ls : Lo} {st : List Va} {σ : Sg} {Q : Rs → Sg → Prop} : Wx d 52 10 ls st σ Q ↔ Li (lget ls 1) (fun z => Wx d 52 11 ls (vi z :: st) σ Q) := u_iload_n d52_10
theorem d52_11 : decode (mB 52) 11 = .ok (.iaload, 1) := by decide +kernel
theorem u52_11 {d : Nat} {ls : Lo} {st : List Va} {σ : Sg} {Q : Rs → Sg → Prop} {z : Int} {g j : Nat} : Wx d 52 11 ls (vi z :: vr g j :: st) σ Q ↔ On (ial σ g j z) (fun x => Wx d 52 12 ls (vi x :: st) σ Q) := u_iald d52_11
theorem d52_12 : decode (mB 52) 12 = .ok (.isub, 1) := by decide +kernel
theorem u52_12 {d : Nat} {ls : Lo} {st : List Va} {σ : Sg} {Q : Rs → Sg → Prop} {a b : Int} : Wx d 52 12 ls (vi b :: vi a :: st) σ Q ↔ Wx d 52 13 ls (vi (a - b) :: st) σ Q := u_isub d52_12
theorem d52_13 : decode (mB 52) 13 = .ok (.istore_n 2, 1) := by decide +kernel
theorem u52_13 {d : Nat} {ls : Lo} {st : List Va} {σ : Sg} {Q : Rs → Sg → Prop} {z : Int} : Wx d 52 13 ls (vi z :: st) σ Q ↔ Wx d 52 14 (lset ls 2 (vi z)) st σ Q := u_istore_n d52_13 (by decide)
theorem d52_14 : decode (mB 52) 14 = .ok (.iload_n 1, 1) := by decide +kernel
theorem u52_14 {d : Nat} {ls : Lo} {st : List Va} {σ : Sg} {Q : Rs → Sg → Prop} : Wx d 52 14 ls st σ Q ↔ Li (lget ls 1) (fun z => Wx d 52 15 ls (vi z :: st) σ Q) := u_iload_n d52_14
theorem d52_15 : decode (mB 52) 15 = .ok (.ifCond .eq 8, 3) := by decide +kernel
theorem u52_15 {d : Nat} {ls : Lo} {st : List Va} {σ : Sg} {Q : Rs → Sg → Prop} {a : Int} (h : -2147483648 ≤ a ∧ a ≤ 2147483647) : Wx d 52 15 ls (vi a :: st) σ Q ↔ if a = 0 then Wx d 52 23 ls st σ Q else Wx d 52 18 ls st σ Q := u_ifeq d52_15 (by decide) h
theorem d52_18 : decode (mB 52) 18 = .ok (.iload_n 1, 1) := by decide +kernel
theorem u52_18 {d : Nat} {ls : Lo} {st : List Va} {σ : Sg} {Q : Rs → Sg → Prop} : Wx d 52 18 ls st σ Q ↔ Li (lget ls 1) (fun z => Wx d 52 19 ls (vi z :: st) σ Q) := u_iload_n d52_18
theorem d52_19 : decode (mB 52) 19 = .ok (.iconst 3, 1) := by decide +kernel
theorem u52_19 {d : Nat} {ls : Lo} {st : List Va} {σ : Sg} {Q : Rs → Sg → Prop} : Wx d 52 19 ls st σ Q ↔ Wx d 52 20 ls (vi 3 :: st) σ Q := u_iconst d52_19
theorem d52_20 : decode (mB 52) 20 = .ok (.if_icmp .ne 32, 3) := by decide +kernel
theorem u52_20 {d : Nat} {ls : Lo} {st : List Va} {σ : Sg} {Q : Rs → Sg → Prop} {a b : Int} (h : -2147483648 ≤ a ∧ a ≤ 2147483647) (h2 : -2147483648 ≤ b ∧ b ≤ 2147483647) : Wx d 52 20 ls (vi b :: vi a :: st) σ Q ↔ if ¬ a = b then Wx d 52 52 ls st σ Q else Wx d 52 23 ls st σ Q := u_icne d52_20 (by decide) h h2
theorem d52_23 : decode (mB 52) 23 = .ok (.aload_n 0, 1) := by decide +kernel
theorem u52_23 {d : Nat} {ls : Lo} {st : List Va} {σ : Sg} {Q : Rs → Sg → Prop} : Wx d 52 23 ls st σ Q ↔ Lr (lget ls 0) (fun z => Wx d 52 24 ls (.inr (.inl z) :: st) σ Q) := u_aload_n d52_23
theorem d52_24 : decode (mB 52) 24 = .ok (.getfield 9, 3) := by decide +kernel
theorem u52_24 {d : Nat} {ls : Lo} {st : List Va} {σ : Sg} {Q : Rs → Sg → Prop} {g j : Nat} : Wx d 52 24 ls (vr g j :: st) σ Q ↔ isO g j 4 ∧ Wx d 52 27 ls (fvv σ g j 0 :: st) σ Q := u_get (w := (4, 0)) d52_24 rfl
theorem d52_27 : decode (mB 52) 27 = .ok (.iload_n 1, 1) := by decide +kernel
theorem u52_27 {d : Nat} {ls : Lo} {st : List Va} {σ : Sg} {Q : Rs → Sg → Prop} : Wx d 52 27 ls st σ Q ↔ Li (lget ls 1) (fun z => Wx d 52 28 ls (vi z :: st) σ Q) := u_iload_n d52_27
theorem d52_28 : decode (mB 52) 28 = .ok (.iaload, 1) := by decide +kernel
theorem u52_28 {d : Nat} {ls : Lo} {st : List Va} {σ : Sg} {Q : Rs → Sg → Prop} {z : Int} {g j : Nat} : Wx d 52 28 ls (vi z :: vr g j :: st) σ Q ↔ On (ial σ g j z) (fun x => Wx d 52 29 ls (vi x :: st) σ Q) := u_iald d52_28
theorem d52_29 : decode (mB 52) 29 = .ok (.bipush 12, 2) := by decide +kernel
theorem u52_29 {d : Nat} {ls : Lo} {st : List Va} {σ : Sg} {Q : Rs → Sg → Prop} : Wx d 52 29 ls st σ Q ↔ Wx d 52 31 ls (vi 12 :: st) σ Q := u_bipush d52_29 (by decide)
theorem d52_31 : decode (mB 52) 31 = .ok (.irem, 1) := by decide +kernel
theorem u52_31 {d : Nat} {ls : Lo} {st : List Va} {σ : Sg} {Q : Rs → Sg → Prop} {a b : Int} (h : (-2147483648 ≤ a ∧ a ≤ 2147483647) ∧ 0 < b ∧ b ≤ 2147483647) : Wx d 52 31 ls (vi b :: vi a :: st) σ Q ↔ Wx d 52 32 ls (vi (Int.tmod a b) :: st) σ Q := u_irem d52_31 h
theorem d52_32 : decode (mB 52) 32 = .ok (.aload_n 0, 1) := by decide +kernel
theorem u52_32 {d : Nat} {ls : Lo} {st : List Va} {σ : Sg} {Q : Rs → Sg → Prop} : Wx d 52 32 ls st σ Q ↔ Lr (lget ls 0) (fun z => Wx d 52 33 ls (.inr (.inl z) :: st) σ Q) := u_aload_n d52_32
theorem d52_33 : decode (mB 52) 33 = .ok (.getfield 30, 3) := by decide +kernel
theorem u52_33 {d : Nat} {ls : Lo} {st : List Va} {σ : Sg} {Q : Rs → Sg → Prop} {g j : Nat} : Wx d 52 33 ls (vr g j :: st) σ Q ↔ isO g j 4 ∧ Wx d 52 36 ls (fvv σ g j 4 :: st) σ Q := u_get (w := (4, 4)) d52_33 rfl
theorem d52_36 : decode (mB 52) 36 = .ok (.if_icmp .ne 16, 3) := by decide +kernel
theorem u52_36 {d : Nat} {ls : Lo} {st : List Va} {σ : Sg} {Q : Rs → Sg → Prop} {a b : Int} (h : -2147483648 ≤ a ∧ a ≤ 2147483647) (h2 : -2147483648 ≤ b ∧ b ≤ 2147483647) : Wx d 52 36 ls (vi b :: vi a :: st) σ Q ↔ if ¬ a = b then Wx d 52 52 ls st σ Q else Wx d 52 39 ls st σ Q := u_icne d52_36 (by decide) h h2
theorem d52_39 : decode (mB 52) 39 = .ok (.iload_n 2, 1) := by decide +kernel
theorem u52_39 {d : Nat} {ls : Lo} {st : List Va} {σ : Sg} {Q : Rs → Sg → Prop} : Wx d 52 39 ls st σ Q ↔ Li (lget ls 2) (fun z => Wx d 52 40 ls (vi z :: st) σ Q) := u_iload_n d52_39
theorem d52_40 : decode (mB 52) 40 = .ok (.ifCond .eq 12, 3) := by decide +kernel
theorem u52_40 {d : Nat} {ls : Lo} {st : List Va} {σ : Sg} {Q : Rs → Sg → Prop} {a : Int} (h : -2147483648 ≤ a ∧ a ≤ 2147483647) : Wx d 52 40 ls (vi a :: st) σ Q ↔ if a = 0 then Wx d 52 52 ls st σ Q else Wx d 52 43 ls st σ Q := u_ifeq d52_40 (by decide) h
theorem d52_43 : decode (mB 52) 43 = .ok (.iload_n 2, 1) := by decide +kernel
theorem u52_43 {d : Nat} {ls : Lo} {st : List Va} {σ : Sg} {Q : Rs → Sg → Prop} : Wx d 52 43 ls st σ Q ↔ Li (lget ls 2) (fun z => Wx d 52 44 ls (vi z :: st) σ Q) := u_iload_n d52_43
theorem d52_44 : decode (mB 52) 44 = .ok (.iconst 1, 1) := by decide +kernel
theorem u52_44 {d : Nat} {ls : Lo} {st : List Va} {σ : Sg} {Q : Rs → Sg → Prop} : Wx d 52 44 ls st σ Q ↔ Wx d 52 45 ls (vi 1 :: st) σ Q := u_iconst d52_44
theorem d52_45 : decode (mB 52) 45 = .ok (.if_icmp .eq 7, 3) := by decide +kernel
theorem u52_45 {d : Nat} {ls : Lo} {st : List Va} {σ : Sg} {Q : Rs → Sg → Prop} {a b : Int} (h : -2147483648 ≤ a ∧ a ≤ 2147483647) (h2 : -2147483648 ≤ b ∧ b ≤ 2147483647) : Wx d 52 45 ls (vi b :: vi a :: st) σ Q ↔ if a = b then Wx d 52 52 ls st σ Q else Wx d 52 48 ls st σ Q := u_iceq d52_45 (by decide) h h2
theorem d52_48 : decode (mB 52) 48 = .ok (.iconst 1, 1) := by decide +kernel
theorem u52_48 {d : Nat} {ls : Lo} {st : List Va} {σ : Sg} {Q : Rs → Sg → Prop} : Wx d 52 48 ls st σ Q ↔ Wx d 52 49 ls (vi 1 :: st) σ Q := u_iconst d52_48
theorem d52_49 : decode (mB 52) 49 = .ok (.goto 4, 3) := by decide +kernel
theorem u52_49 {d : Nat} {ls : Lo} {st : List Va} {σ : Sg} {Q : Rs → Sg → Prop} : Wx d 52 49 ls st σ Q ↔ Wx d 52 53 ls st σ Q := u_goto d52_49 (by decide)
theorem d52_52 : decode (mB 52) 52 = .ok (.iconst 0, 1) := by decide +kernel
theorem u52_52 {d : Nat} {ls : Lo} {st : List Va} {σ : Sg} {Q : Rs → Sg → Prop} : Wx d 52 52 ls st σ Q ↔ Wx d 52 53 ls (vi 0 :: st) σ Q := u_iconst d52_52
theorem d52_53 : decode (mB 52) 53 = .ok (.ireturn, 1) := by decide +kernel
theorem u52_53 {d : Nat} {ls : Lo} {σ : Sg} {Q : Rs → Sg → Prop} {z : Int} (h : z = 0 ∨ z = 1) : Wx d 52 53 ls [vi z] σ Q ↔ Q (.inl (some (vi z))) σ := u_zret d52_53 rfl h
/-! 53: FiguredBass$Move.breaksSeventh(I)Z -/
theorem d53_0 : decode (mB 53) 0 = .ok (.aload_n 0, 1) := by decide +kernel
theorem u53_0 {d : Nat} {ls : Lo} {st : List Va} {σ : Sg} {Q : Rs → Sg → Prop} : Wx d 53 0 ls st σ Q ↔ Lr (lget ls 0) (fun z => Wx d 53 1 ls (.inr (.inl z) :: st) σ Q) := u_aload_n d53_0
theorem d53_1 : decode (mB 53) 1 = .ok (.getfield 9, 3) := by decide +kernel
theorem u53_1 {d : Nat} {ls : Lo} {st : List Va} {σ : Sg} {Q : Rs → Sg → Prop} {g j : Nat} : Wx d 53 1 ls (vr g j :: st) σ Q ↔ isO g j 4 ∧ Wx d 53 4 ls (fvv σ g j 0 :: st) σ Q := u_get (w := (4, 0)) d53_1 rfl
theorem d53_4 : decode (mB 53) 4 = .ok (.iload_n 1, 1) := by decide +kernel
theorem u53_4 {d : Nat} {ls : Lo} {st : List Va} {σ : Sg} {Q : Rs → Sg → Prop} : Wx d 53 4 ls st σ Q ↔ Li (lget ls 1) (fun z => Wx d 53 5 ls (vi z :: st) σ Q) := u_iload_n d53_4
theorem d53_5 : decode (mB 53) 5 = .ok (.iaload, 1) := by decide +kernel
theorem u53_5 {d : Nat} {ls : Lo} {st : List Va} {σ : Sg} {Q : Rs → Sg → Prop} {z : Int} {g j : Nat} : Wx d 53 5 ls (vi z :: vr g j :: st) σ Q ↔ On (ial σ g j z) (fun x => Wx d 53 6 ls (vi x :: st) σ Q) := u_iald d53_5
theorem d53_6 : decode (mB 53) 6 = .ok (.aload_n 0, 1) := by decide +kernel
theorem u53_6 {d : Nat} {ls : Lo} {st : List Va} {σ : Sg} {Q : Rs → Sg → Prop} : Wx d 53 6 ls st σ Q ↔ Lr (lget ls 0) (fun z => Wx d 53 7 ls (.inr (.inl z) :: st) σ Q) := u_aload_n d53_6
theorem d53_7 : decode (mB 53) 7 = .ok (.getfield 15, 3) := by decide +kernel
theorem u53_7 {d : Nat} {ls : Lo} {st : List Va} {σ : Sg} {Q : Rs → Sg → Prop} {g j : Nat} : Wx d 53 7 ls (vr g j :: st) σ Q ↔ isO g j 4 ∧ Wx d 53 10 ls (fvv σ g j 1 :: st) σ Q := u_get (w := (4, 1)) d53_7 rfl
theorem d53_10 : decode (mB 53) 10 = .ok (.iload_n 1, 1) := by decide +kernel
theorem u53_10 {d : Nat} {ls : Lo} {st : List Va} {σ : Sg} {Q : Rs → Sg → Prop} : Wx d 53 10 ls st σ Q ↔ Li (lget ls 1) (fun z => Wx d 53 11 ls (vi z :: st) σ Q) := u_iload_n d53_10
theorem d53_11 : decode (mB 53) 11 = .ok (.iaload, 1) := by decide +kernel
theorem u53_11 {d : Nat} {ls : Lo} {st : List Va} {σ : Sg} {Q : Rs → Sg → Prop} {z : Int} {g j : Nat} : Wx d 53 11 ls (vi z :: vr g j :: st) σ Q ↔ On (ial σ g j z) (fun x => Wx d 53 12 ls (vi x :: st) σ Q) := u_iald d53_11
theorem d53_12 : decode (mB 53) 12 = .ok (.isub, 1) := by decide +kernel
theorem u53_12 {d : Nat} {ls : Lo} {st : List Va} {σ : Sg} {Q : Rs → Sg → Prop} {a b : Int} : Wx d 53 12 ls (vi b :: vi a :: st) σ Q ↔ Wx d 53 13 ls (vi (a - b) :: st) σ Q := u_isub d53_12
theorem d53_13 : decode (mB 53) 13 = .ok (.istore_n 2, 1) := by decide +kernel
theorem u53_13 {d : Nat} {ls : Lo} {st : List Va} {σ : Sg} {Q : Rs → Sg → Prop} {z : Int} : Wx d 53 13 ls (vi z :: st) σ Q ↔ Wx d 53 14 (lset ls 2 (vi z)) st σ Q := u_istore_n d53_13 (by decide)
theorem d53_14 : decode (mB 53) 14 = .ok (.aload_n 0, 1) := by decide +kernel
theorem u53_14 {d : Nat} {ls : Lo} {st : List Va} {σ : Sg} {Q : Rs → Sg → Prop} : Wx d 53 14 ls st σ Q ↔ Lr (lget ls 0) (fun z => Wx d 53 15 ls (.inr (.inl z) :: st) σ Q) := u_aload_n d53_14
theorem d53_15 : decode (mB 53) 15 = .ok (.getfield 9, 3) := by decide +kernel
theorem u53_15 {d : Nat} {ls : Lo} {st : List Va} {σ : Sg} {Q : Rs → Sg → Prop} {g j : Nat} : Wx d 53 15 ls (vr g j :: st) σ Q ↔ isO g j 4 ∧ Wx d 53 18 ls (fvv σ g j 0 :: st) σ Q := u_get (w := (4, 0)) d53_15 rfl
theorem d53_18 : decode (mB 53) 18 = .ok (.iload_n 1, 1) := by decide +kernel
theorem u53_18 {d : Nat} {ls : Lo} {st : List Va} {σ : Sg} {Q : Rs → Sg → Prop} : Wx d 53 18 ls st σ Q ↔ Li (lget ls 1) (fun z => Wx d 53 19 ls (vi z :: st) σ Q) := u_iload_n d53_18
theorem d53_19 : decode (mB 53) 19 = .ok (.iaload, 1) := by decide +kernel
theorem u53_19 {d : Nat} {ls : Lo} {st : List Va} {σ : Sg} {Q : Rs → Sg → Prop} {z : Int} {g j : Nat} : Wx d 53 19 ls (vi z :: vr g j :: st) σ Q ↔ On (ial σ g j z) (fun x => Wx d 53 20 ls (vi x :: st) σ Q) := u_iald d53_19
theorem d53_20 : decode (mB 53) 20 = .ok (.bipush 12, 2) := by decide +kernel
theorem u53_20 {d : Nat} {ls : Lo} {st : List Va} {σ : Sg} {Q : Rs → Sg → Prop} : Wx d 53 20 ls st σ Q ↔ Wx d 53 22 ls (vi 12 :: st) σ Q := u_bipush d53_20 (by decide)
theorem d53_22 : decode (mB 53) 22 = .ok (.irem, 1) := by decide +kernel
theorem u53_22 {d : Nat} {ls : Lo} {st : List Va} {σ : Sg} {Q : Rs → Sg → Prop} {a b : Int} (h : (-2147483648 ≤ a ∧ a ≤ 2147483647) ∧ 0 < b ∧ b ≤ 2147483647) : Wx d 53 22 ls (vi b :: vi a :: st) σ Q ↔ Wx d 53 23 ls (vi (Int.tmod a b) :: st) σ Q := u_irem d53_22 h
theorem d53_23 : decode (mB 53) 23 = .ok (.aload_n 0, 1) := by decide +kernel
theorem u53_23 {d : Nat} {ls : Lo} {st : List Va} {σ : Sg} {Q : Rs → Sg → Prop} : Wx d 53 23 ls st σ Q ↔ Lr (lget ls 0) (fun z => Wx d 53 24 ls (.inr (.inl z) :: st) σ Q) := u_aload_n d53_23
theorem d53_24 : decode (mB 53) 24 = .ok (.getfield 34, 3) := by decide +kernel
theorem u53_24 {d : Nat} {ls : Lo} {st : List Va} {σ : Sg} {Q : Rs → Sg → Prop} {g j : Nat} : Wx d 53 24 ls (vr g j :: st) σ Q ↔ isO g j 4 ∧ Wx d 53 27 ls (fvv σ g j 5 :: st) σ Q := u_get (w := (4, 5)) d53_24 rfl
theorem d53_27 : decode (mB 53) 27 = .ok (.if_icmp .ne 16, 3) := by decide +kernel
theorem u53_27 {d : Nat} {ls : Lo} {st : List Va} {σ : Sg} {Q : Rs → Sg → Prop} {a b : Int} (h : -2147483648 ≤ a ∧ a ≤ 2147483647) (h2 : -2147483648 ≤ b ∧ b ≤ 2147483647) : Wx d 53 27 ls (vi b :: vi a :: st) σ Q ↔ if ¬ a = b then Wx d 53 43 ls st σ Q else Wx d 53 30 ls st σ Q := u_icne d53_27 (by decide) h h2
theorem d53_30 : decode (mB 53) 30 = .ok (.iload_n 2, 1) := by decide +kernel
theorem u53_30 {d : Nat} {ls : Lo} {st : List Va} {σ : Sg} {Q : Rs → Sg → Prop} : Wx d 53 30 ls st σ Q ↔ Li (lget ls 2) (fun z => Wx d 53 31 ls (vi z :: st) σ Q) := u_iload_n d53_30
theorem d53_31 : decode (mB 53) 31 = .ok (.ifCond .lt 8, 3) := by decide +kernel
theorem u53_31 {d : Nat} {ls : Lo} {st : List Va} {σ : Sg} {Q : Rs → Sg → Prop} {a : Int} (h : -2147483648 ≤ a ∧ a ≤ 2147483647) : Wx d 53 31 ls (vi a :: st) σ Q ↔ if a < 0 then Wx d 53 39 ls st σ Q else Wx d 53 34 ls st σ Q := u_iflt d53_31 (by decide) h
theorem d53_34 : decode (mB 53) 34 = .ok (.iload_n 2, 1) := by decide +kernel
theorem u53_34 {d : Nat} {ls : Lo} {st : List Va} {σ : Sg} {Q : Rs → Sg → Prop} : Wx d 53 34 ls st σ Q ↔ Li (lget ls 2) (fun z => Wx d 53 35 ls (vi z :: st) σ Q) := u_iload_n d53_34
theorem d53_35 : decode (mB 53) 35 = .ok (.iconst 2, 1) := by decide +kernel
theorem u53_35 {d : Nat} {ls : Lo} {st : List Va} {σ : Sg} {Q : Rs → Sg → Prop} : Wx d 53 35 ls st σ Q ↔ Wx d 53 36 ls (vi 2 :: st) σ Q := u_iconst d53_35
theorem d53_36 : decode (mB 53) 36 = .ok (.if_icmp .le 7, 3) := by decide +kernel
theorem u53_36 {d : Nat} {ls : Lo} {st : List Va} {σ : Sg} {Q : Rs → Sg → Prop} {a b : Int} (h : -2147483648 ≤ a ∧ a ≤ 2147483647) (h2 : -2147483648 ≤ b ∧ b ≤ 2147483647) : Wx d 53 36 ls (vi b :: vi a :: st) σ Q ↔ if a ≤ b then Wx d 53 43 ls st σ Q else Wx d 53 39 ls st σ Q := u_icle d53_36 (by decide) h h2
theorem d53_39 : decode (mB 53) 39 = .ok (.iconst 1, 1) := by decide +kernel
theorem u53_39 {d : Nat} {ls : Lo} {st : List Va} {σ : Sg} {Q : Rs → Sg → Prop} : Wx d 53 39 ls st σ Q ↔ Wx d 53 40 ls (vi 1 :: st) σ Q := u_iconst d53_39
theorem d53_40 : decode (mB 53) 40 = .ok (.goto 4, 3) := by decide +kernel
theorem u53_40 {d : Nat} {ls : Lo} {st : List Va} {σ : Sg} {Q : Rs → Sg → Prop} : Wx d 53 40 ls st σ Q ↔ Wx d 53 44 ls st σ Q := u_goto d53_40 (by decide)
theorem d53_43 : decode (mB 53) 43 = .ok (.iconst 0, 1) := by decide +kernel
theorem u53_43 {d : Nat} {ls : Lo} {st : List Va} {σ : Sg} {Q : Rs → Sg → Prop} : Wx d 53 43 ls st σ Q ↔ Wx d 53 44 ls (vi 0 :: st) σ Q := u_iconst d53_43
theorem d53_44 : decode (mB 53) 44 = .ok (.ireturn, 1) := by decide +kernel
theorem u53_44 {d : Nat} {ls : Lo} {σ : Sg} {Q : Rs → Sg → Prop} {z : Int} (h : z = 0 ∨ z = 1) : Wx d 53 44 ls [vi z] σ Q ↔ Q (.inl (some (vi z))) σ := u_zret d53_44 rfl h
/-! 54: FiguredBass$Move.breaksStep(I)Z -/
theorem d54_0 : decode (mB 54) 0 = .ok (.aload_n 0, 1) := by decide +kernel
theorem u54_0 {d : Nat} {ls : Lo} {st : List Va} {σ : Sg} {Q : Rs → Sg → Prop} : Wx d 54 0 ls st σ Q ↔ Lr (lget ls 0) (fun z => Wx d 54 1 ls (.inr (.inl z) :: st) σ Q) := u_aload_n d54_0
theorem d54_1 : decode (mB 54) 1 = .ok (.getfield 18, 3) := by decide +kernel
theorem u54_1 {d : Nat} {ls : Lo} {st : List Va} {σ : Sg} {Q : Rs → Sg → Prop} {g j : Nat} : Wx d 54 1 ls (vr g j :: st) σ Q ↔ isO g j 4 ∧ Wx d 54 4 ls (fvv σ g j 2 :: st) σ Q := u_get (w := (4, 2)) d54_1 rfl
theorem d54_4 : decode (mB 54) 4 = .ok (.iload_n 1, 1) := by decide +kernel
theorem u54_4 {d : Nat} {ls : Lo} {st : List Va} {σ : Sg} {Q : Rs → Sg → Prop} : Wx d 54 4 ls st σ Q ↔ Li (lget ls 1) (fun z => Wx d 54 5 ls (vi z :: st) σ Q) := u_iload_n d54_4
theorem d54_5 : decode (mB 54) 5 = .ok (.iaload, 1) := by decide +kernel
theorem u54_5 {d : Nat} {ls : Lo} {st : List Va} {σ : Sg} {Q : Rs → Sg → Prop} {z : Int} {g j : Nat} : Wx d 54 5 ls (vi z :: vr g j :: st) σ Q ↔ On (ial σ g j z) (fun x => Wx d 54 6 ls (vi x :: st) σ Q) := u_iald d54_5
theorem d54_6 : decode (mB 54) 6 = .ok (.istore_n 2, 1) := by decide +kernel
theorem u54_6 {d : Nat} {ls : Lo} {st : List Va} {σ : Sg} {Q : Rs → Sg → Prop} {z : Int} : Wx d 54 6 ls (vi z :: st) σ Q ↔ Wx d 54 7 (lset ls 2 (vi z)) st σ Q := u_istore_n d54_6 (by decide)
theorem d54_7 : decode (mB 54) 7 = .ok (.aload_n 0, 1) := by decide +kernel
theorem u54_7 {d : Nat} {ls : Lo} {st : List Va} {σ : Sg} {Q : Rs → Sg → Prop} : Wx d 54 7 ls st σ Q ↔ Lr (lget ls 0) (fun z => Wx d 54 8 ls (.inr (.inl z) :: st) σ Q) := u_aload_n d54_7
theorem d54_8 : decode (mB 54) 8 = .ok (.getfield 21, 3) := by decide +kernel
theorem u54_8 {d : Nat} {ls : Lo} {st : List Va} {σ : Sg} {Q : Rs → Sg → Prop} {g j : Nat} : Wx d 54 8 ls (vr g j :: st) σ Q ↔ isO g j 4 ∧ Wx d 54 11 ls (fvv σ g j 3 :: st) σ Q := u_get (w := (4, 3)) d54_8 rfl
theorem d54_11 : decode (mB 54) 11 = .ok (.iload_n 1, 1) := by decide +kernel
theorem u54_11 {d : Nat} {ls : Lo} {st : List Va} {σ : Sg} {Q : Rs → Sg → Prop} : Wx d 54 11 ls st σ Q ↔ Li (lget ls 1) (fun z => Wx d 54 12 ls (vi z :: st) σ Q) := u_iload_n d54_11
theorem d54_12 : decode (mB 54) 12 = .ok (.iaload, 1) := by decide +kernel
theorem u54_12 {d : Nat} {ls : Lo} {st : List Va} {σ : Sg} {Q : Rs → Sg → Prop} {z : Int} {g j : Nat} : Wx d 54 12 ls (vi z :: vr g j :: st) σ Q ↔ On (ial σ g j z) (fun x => Wx d 54 13 ls (vi x :: st) σ Q) := u_iald d54_12
theorem d54_13 : decode (mB 54) 13 = .ok (.istore_n 3, 1) := by decide +kernel
theorem u54_13 {d : Nat} {ls : Lo} {st : List Va} {σ : Sg} {Q : Rs → Sg → Prop} {z : Int} : Wx d 54 13 ls (vi z :: st) σ Q ↔ Wx d 54 14 (lset ls 3 (vi z)) st σ Q := u_istore_n d54_13 (by decide)
theorem d54_14 : decode (mB 54) 14 = .ok (.iload_n 2, 1) := by decide +kernel
theorem u54_14 {d : Nat} {ls : Lo} {st : List Va} {σ : Sg} {Q : Rs → Sg → Prop} : Wx d 54 14 ls st σ Q ↔ Li (lget ls 2) (fun z => Wx d 54 15 ls (vi z :: st) σ Q) := u_iload_n d54_14
theorem d54_15 : decode (mB 54) 15 = .ok (.iconst (-1), 1) := by decide +kernel
theorem u54_15 {d : Nat} {ls : Lo} {st : List Va} {σ : Sg} {Q : Rs → Sg → Prop} : Wx d 54 15 ls st σ Q ↔ Wx d 54 16 ls (vi (-1) :: st) σ Q := u_iconst d54_15
theorem d54_16 : decode (mB 54) 16 = .ok (.if_icmp .eq 28, 3) := by decide +kernel
theorem u54_16 {d : Nat} {ls : Lo} {st : List Va} {σ : Sg} {Q : Rs → Sg → Prop} {a b : Int} (h : -2147483648 ≤ a ∧ a ≤ 2147483647) (h2 : -2147483648 ≤ b ∧ b ≤ 2147483647) : Wx d 54 16 ls (vi b :: vi a :: st) σ Q ↔ if a = b then Wx d 54 44 ls st σ Q else Wx d 54 19 ls st σ Q := u_iceq d54_16 (by decide) h h2
theorem d54_19 : decode (mB 54) 19 = .ok (.iload_n 3, 1) := by decide +kernel
theorem u54_19 {d : Nat} {ls : Lo} {st : List Va} {σ : Sg} {Q : Rs → Sg → Prop} : Wx d 54 19 ls st σ Q ↔ Li (lget ls 3) (fun z => Wx d 54 20 ls (vi z :: st) σ Q) := u_iload_n d54_19
theorem d54_20 : decode (mB 54) 20 = .ok (.iconst (-1), 1) := by decide +kernel
theorem u54_20 {d : Nat} {ls : Lo} {st : List Va} {σ : Sg} {Q : Rs → Sg → Prop} : Wx d 54 20 ls st σ Q ↔ Wx d 54 21 ls (vi (-1) :: st) σ Q := u_iconst d54_20
theorem d54_21 : decode (mB 54) 21 = .ok (.if_icmp .eq 23, 3) := by decide +kernel
theorem u54_21 {d : Nat} {ls : Lo} {st : List Va} {σ : Sg} {Q : Rs → Sg → Prop} {a b : Int} (h : -2147483648 ≤ a ∧ a ≤ 2147483647) (h2 : -2147483648 ≤ b ∧ b ≤ 2147483647) : Wx d 54 21 ls (vi b :: vi a :: st) σ Q ↔ if a = b then Wx d 54 44 ls st σ Q else Wx d 54 24 ls st σ Q := u_iceq d54_21 (by decide) h h2
theorem d54_24 : decode (mB 54) 24 = .ok (.aload_n 0, 1) := by decide +kernel
theorem u54_24 {d : Nat} {ls : Lo} {st : List Va} {σ : Sg} {Q : Rs → Sg → Prop} : Wx d 54 24 ls st σ Q ↔ Lr (lget ls 0) (fun z => Wx d 54 25 ls (.inr (.inl z) :: st) σ Q) := u_aload_n d54_24
theorem d54_25 : decode (mB 54) 25 = .ok (.getfield 15, 3) := by decide +kernel
theorem u54_25 {d : Nat} {ls : Lo} {st : List Va} {σ : Sg} {Q : Rs → Sg → Prop} {g j : Nat} : Wx d 54 25 ls (vr g j :: st) σ Q ↔ isO g j 4 ∧ Wx d 54 28 ls (fvv σ g j 1 :: st) σ Q := u_get (w := (4, 1)) d54_25 rfl
theorem d54_28 : decode (mB 54) 28 = .ok (.iload_n 1, 1) := by decide +kernel
theorem u54_28 {d : Nat} {ls : Lo} {st : List Va} {σ : Sg} {Q : Rs → Sg → Prop} : Wx d 54 28 ls st σ Q ↔ Li (lget ls 1) (fun z => Wx d 54 29 ls (vi z :: st) σ Q) := u_iload_n d54_28
theorem d54_29 : decode (mB 54) 29 = .ok (.iaload, 1) := by decide +kernel
theorem u54_29 {d : Nat} {ls : Lo} {st : List Va} {σ : Sg} {Q : Rs → Sg → Prop} {z : Int} {g j : Nat} : Wx d 54 29 ls (vi z :: vr g j :: st) σ Q ↔ On (ial σ g j z) (fun x => Wx d 54 30 ls (vi x :: st) σ Q) := u_iald d54_29
theorem d54_30 : decode (mB 54) 30 = .ok (.aload_n 0, 1) := by decide +kernel
theorem u54_30 {d : Nat} {ls : Lo} {st : List Va} {σ : Sg} {Q : Rs → Sg → Prop} : Wx d 54 30 ls st σ Q ↔ Lr (lget ls 0) (fun z => Wx d 54 31 ls (.inr (.inl z) :: st) σ Q) := u_aload_n d54_30
theorem d54_31 : decode (mB 54) 31 = .ok (.getfield 9, 3) := by decide +kernel
theorem u54_31 {d : Nat} {ls : Lo} {st : List Va} {σ : Sg} {Q : Rs → Sg → Prop} {g j : Nat} : Wx d 54 31 ls (vr g j :: st) σ Q ↔ isO g j 4 ∧ Wx d 54 34 ls (fvv σ g j 0 :: st) σ Q := u_get (w := (4, 0)) d54_31 rfl
theorem d54_34 : decode (mB 54) 34 = .ok (.iload_n 1, 1) := by decide +kernel
theorem u54_34 {d : Nat} {ls : Lo} {st : List Va} {σ : Sg} {Q : Rs → Sg → Prop} : Wx d 54 34 ls st σ Q ↔ Li (lget ls 1) (fun z => Wx d 54 35 ls (vi z :: st) σ Q) := u_iload_n d54_34
theorem d54_35 : decode (mB 54) 35 = .ok (.iaload, 1) := by decide +kernel
theorem u54_35 {d : Nat} {ls : Lo} {st : List Va} {σ : Sg} {Q : Rs → Sg → Prop} {z : Int} {g j : Nat} : Wx d 54 35 ls (vi z :: vr g j :: st) σ Q ↔ On (ial σ g j z) (fun x => Wx d 54 36 ls (vi x :: st) σ Q) := u_iald d54_35
theorem d54_36 : decode (mB 54) 36 = .ok (.isub, 1) := by decide +kernel
theorem u54_36 {d : Nat} {ls : Lo} {st : List Va} {σ : Sg} {Q : Rs → Sg → Prop} {a b : Int} : Wx d 54 36 ls (vi b :: vi a :: st) σ Q ↔ Wx d 54 37 ls (vi (a - b) :: st) σ Q := u_isub d54_36
theorem d54_37 : decode (mB 54) 37 = .ok (.invokestatic 43, 3) := by decide +kernel
theorem u54_37 {d : Nat} {ls : Lo} {st : List Va} {σ : Sg} {Q : Rs → Sg → Prop} {a : Int} (h : -2147483647 ≤ a ∧ a ≤ 2147483647) (hl : st.length ≤ 4) : Wx d 54 37 ls (vi a :: st) σ Q ↔ Wx d 54 40 ls (vi (a.natAbs : Int) :: st) σ Q := u_abs d54_37 rfl h hl
theorem d54_40 : decode (mB 54) 40 = .ok (.iconst 3, 1) := by decide +kernel
theorem u54_40 {d : Nat} {ls : Lo} {st : List Va} {σ : Sg} {Q : Rs → Sg → Prop} : Wx d 54 40 ls st σ Q ↔ Wx d 54 41 ls (vi 3 :: st) σ Q := u_iconst d54_40
theorem d54_41 : decode (mB 54) 41 = .ok (.if_icmp .eq 5, 3) := by decide +kernel
theorem u54_41 {d : Nat} {ls : Lo} {st : List Va} {σ : Sg} {Q : Rs → Sg → Prop} {a b : Int} (h : -2147483648 ≤ a ∧ a ≤ 2147483647) (h2 : -2147483648 ≤ b ∧ b ≤ 2147483647) : Wx d 54 41 ls (vi b :: vi a :: st) σ Q ↔ if a = b then Wx d 54 46 ls st σ Q else Wx d 54 44 ls st σ Q := u_iceq d54_41 (by decide) h h2
theorem d54_44 : decode (mB 54) 44 = .ok (.iconst 0, 1) := by decide +kernel
theorem u54_44 {d : Nat} {ls : Lo} {st : List Va} {σ : Sg} {Q : Rs → Sg → Prop} : Wx d 54 44 ls st σ Q ↔ Wx d 54 45 ls (vi 0 :: st) σ Q := u_iconst d54_44
theorem d54_45 : decode (mB 54) 45 = .ok (.ireturn, 1) := by decide +kernel
theorem u54_45 {d : Nat} {ls : Lo} {σ : Sg} {Q : Rs → Sg → Prop} {z : Int} (h : z = 0 ∨ z = 1) : Wx d 54 45 ls [vi z] σ Q ↔ Q (.inl (some (vi z))) σ := u_zret d54_45 rfl h
theorem d54_46 : decode (mB 54) 46 = .ok (.iload_n 3, 1) := by decide +kernel
theorem u54_46 {d : Nat} {ls : Lo} {st : List Va} {σ : Sg} {Q : Rs → Sg → Prop} : Wx d 54 46 ls st σ Q ↔ Li (lget ls 3) (fun z => Wx d 54 47 ls (vi z :: st) σ Q) := u_iload_n d54_46
theorem d54_47 : decode (mB 54) 47 = .ok (.iload_n 2, 1) := by decide +kernel
theorem u54_47 {d : Nat} {ls : Lo} {st : List Va} {σ : Sg} {Q : Rs → Sg → Prop} : Wx d 54 47 ls st σ Q ↔ Li (lget ls 2) (fun z => Wx d 54 48 ls (vi z :: st) σ Q) := u_iload_n d54_47
theorem d54_48 : decode (mB 54) 48 = .ok (.isub, 1) := by decide +kernel
theorem u54_48 {d : Nat} {ls : Lo} {st : List Va} {σ : Sg} {Q : Rs → Sg → Prop} {a b : Int} : Wx d 54 48 ls (vi b :: vi a :: st) σ Q ↔ Wx d 54 49 ls (vi (a - b) :: st) σ Q := u_isub d54_48
theorem d54_49 : decode (mB 54) 49 = .ok (.invokestatic 43, 3) := by decide +kernel
theorem u54_49 {d : Nat} {ls : Lo} {st : List Va} {σ : Sg} {Q : Rs → Sg → Prop} {a : Int} (h : -2147483647 ≤ a ∧ a ≤ 2147483647) (hl : st.length ≤ 4) : Wx d 54 49 ls (vi a :: st) σ Q ↔ Wx d 54 52 ls (vi (a.natAbs : Int) :: st) σ Q := u_abs d54_49 rfl h hl
theorem d54_52 : decode (mB 54) 52 = .ok (.istore 4, 2) := by decide +kernel
theorem u54_52 {d : Nat} {ls : Lo} {st : List Va} {σ : Sg} {Q : Rs → Sg → Prop} {z : Int} : Wx d 54 52 ls (vi z :: st) σ Q ↔ Wx d 54 54 (lset ls 4 (vi z)) st σ Q := u_istore d54_52 (by decide)
theorem d54_54 : decode (mB 54) 54 = .ok (.iload 4, 2) := by decide +kernel
theorem u54_54 {d : Nat} {ls : Lo} {st : List Va} {σ : Sg} {Q : Rs → Sg → Prop} : Wx d 54 54 ls st σ Q ↔ Li (lget ls 4) (fun z => Wx d 54 56 ls (vi z :: st) σ Q) := u_iload d54_54
theorem d54_56 : decode (mB 54) 56 = .ok (.iconst 1, 1) := by decide +kernel
theorem u54_56 {d : Nat} {ls : Lo} {st : List Va} {σ : Sg} {Q : Rs → Sg → Prop} : Wx d 54 56 ls st σ Q ↔ Wx d 54 57 ls (vi 1 :: st) σ Q := u_iconst d54_56
theorem d54_57 : decode (mB 54) 57 = .ok (.if_icmp .eq 10, 3) := by decide +kernel
theorem u54_57 {d : Nat} {ls : Lo} {st : List Va} {σ : Sg} {Q : Rs → Sg → Prop} {a b : Int} (h : -2147483648 ≤ a ∧ a ≤ 2147483647) (h2 : -2147483648 ≤ b ∧ b ≤ 2147483647) : Wx d 54 57 ls (vi b :: vi a :: st) σ Q ↔ if a = b then Wx d 54 67 ls st σ Q else Wx d 54 60 ls st σ Q := u_iceq d54_57 (by decide) h h2
theorem d54_60 : decode (mB 54) 60 = .ok (.iload 4, 2) := by decide +kernel
theorem u54_60 {d : Nat} {ls : Lo} {st : List Va} {σ : Sg} {Q : Rs → Sg → Prop} : Wx d 54 60 ls st σ Q ↔ Li (lget ls 4) (fun z => Wx d 54 62 ls (vi z :: st) σ Q) := u_iload d54_60
theorem d54_62 : decode (mB 54) 62 = .ok (.bipush 6, 2) := by decide +kernel
theorem u54_62 {d : Nat} {ls : Lo} {st : List Va} {σ : Sg} {Q : Rs → Sg → Prop} : Wx d 54 62 ls st σ Q ↔ Wx d 54 64 ls (vi 6 :: st) σ Q := u_bipush d54_62 (by decide)
theorem d54_64 : decode (mB 54) 64 = .ok (.if_icmp .ne 7, 3) := by decide +kernel
theorem u54_64 {d : Nat} {ls : Lo} {st : List Va} {σ : Sg} {Q : Rs → Sg → Prop} {a b : Int} (h : -2147483648 ≤ a ∧ a ≤ 2147483647) (h2 : -2147483648 ≤ b ∧ b ≤ 2147483647) : Wx d 54 64 ls (vi b :: vi a :: st) σ Q ↔ if ¬ a = b then Wx d 54 71 ls st σ Q else Wx d 54 67 ls st σ Q := u_icne d54_64 (by decide) h h2
theorem d54_67 : decode (mB 54) 67 = .ok (.iconst 1, 1) := by decide +kernel
theorem u54_67 {d : Nat} {ls : Lo} {st : List Va} {σ : Sg} {Q : Rs → Sg → Prop} : Wx d 54 67 ls st σ Q ↔ Wx d 54 68 ls (vi 1 :: st) σ Q := u_iconst d54_67
theorem d54_68 : decode (mB 54) 68 = .ok (.goto 4, 3) := by decide +kernel
theorem u54_68 {d : Nat} {ls : Lo} {st : List Va} {σ : Sg} {Q : Rs → Sg → Prop} : Wx d 54 68 ls st σ Q ↔ Wx d 54 72 ls st σ Q := u_goto d54_68 (by decide)
theorem d54_71 : decode (mB 54) 71 = .ok (.iconst 0, 1) := by decide +kernel
theorem u54_71 {d : Nat} {ls : Lo} {st : List Va} {σ : Sg} {Q : Rs → Sg → Prop} : Wx d 54 71 ls st σ Q ↔ Wx d 54 72 ls (vi 0 :: st) σ Q := u_iconst d54_71
theorem d54_72 : decode (mB 54) 72 = .ok (.ireturn, 1) := by decide +kernel
theorem u54_72 {d : Nat} {ls : Lo} {σ : Sg} {Q : Rs → Sg → Prop} {z : Int} (h : z = 0 ∨ z = 1) : Wx d 54 72 ls [vi z] σ Q ↔ Q (.inl (some (vi z))) σ := u_zret d54_72 rfl h
/-! 55: FiguredBass$Realisation.forget()V -/
theorem d55_0 : decode (mB 55) 0 = .ok (.aload_n 0, 1) := by decide +kernel
theorem u55_0 {d : Nat} {ls : Lo} {st : List Va} {σ : Sg} {Q : Rs → Sg → Prop} : Wx d 55 0 ls st σ Q ↔ Lr (lget ls 0) (fun z => Wx d 55 1 ls (.inr (.inl z) :: st) σ Q) := u_aload_n d55_0
theorem d55_1 : decode (mB 55) 1 = .ok (.iconst 0, 1) := by decide +kernel
theorem u55_1 {d : Nat} {ls : Lo} {st : List Va} {σ : Sg} {Q : Rs → Sg → Prop} : Wx d 55 1 ls st σ Q ↔ Wx d 55 2 ls (vi 0 :: st) σ Q := u_iconst d55_1
theorem d55_2 : decode (mB 55) 2 = .ok (.putfield 39, 3) := by decide +kernel
theorem u55_2 {d : Nat} {ls : Lo} {st : List Va} {σ : Sg} {Q : Rs → Sg → Prop} {z : Int} {g j : Nat} : Wx d 55 2 ls (vi z :: vr g j :: st) σ Q ↔ (isO g j 5 ∧ rf g j 6 = none ∧ (z = 0 ∨ z = 1)) ∧ Wx d 55 5 ls st (up σ g j 6 z) Q := u_putz (w := (5, 6)) d55_2 rfl rfl rfl
theorem d55_5 : decode (mB 55) 5 = .ok (.return_, 1) := by decide +kernel
theorem u55_5 {d : Nat} {ls : Lo} {σ : Sg} {Q : Rs → Sg → Prop} : Wx d 55 5 ls [] σ Q ↔ Q (.inl none) σ := u_vret d55_5 rfl
/-! 56: FiguredBass$Realisation.write([LFiguredBass$Chord;I)I -/
theorem d56_0 : decode (mB 56) 0 = .ok (.iload_n 2, 1) := by decide +kernel
theorem u56_0 {d : Nat} {ls : Lo} {st : List Va} {σ : Sg} {Q : Rs → Sg → Prop} : Wx d 56 0 ls st σ Q ↔ Li (lget ls 2) (fun z => Wx d 56 1 ls (vi z :: st) σ Q) := u_iload_n d56_0
theorem d56_1 : decode (mB 56) 1 = .ok (.iconst 1, 1) := by decide +kernel
theorem u56_1 {d : Nat} {ls : Lo} {st : List Va} {σ : Sg} {Q : Rs → Sg → Prop} : Wx d 56 1 ls st σ Q ↔ Wx d 56 2 ls (vi 1 :: st) σ Q := u_iconst d56_1
theorem d56_2 : decode (mB 56) 2 = .ok (.isub, 1) := by decide +kernel
theorem u56_2 {d : Nat} {ls : Lo} {st : List Va} {σ : Sg} {Q : Rs → Sg → Prop} {a b : Int} : Wx d 56 2 ls (vi b :: vi a :: st) σ Q ↔ Wx d 56 3 ls (vi (a - b) :: st) σ Q := u_isub d56_2
theorem d56_3 : decode (mB 56) 3 = .ok (.istore_n 3, 1) := by decide +kernel
theorem u56_3 {d : Nat} {ls : Lo} {st : List Va} {σ : Sg} {Q : Rs → Sg → Prop} {z : Int} : Wx d 56 3 ls (vi z :: st) σ Q ↔ Wx d 56 4 (lset ls 3 (vi z)) st σ Q := u_istore_n d56_3 (by decide)
theorem d56_4 : decode (mB 56) 4 = .ok (.iload_n 3, 1) := by decide +kernel
theorem u56_4 {d : Nat} {ls : Lo} {st : List Va} {σ : Sg} {Q : Rs → Sg → Prop} : Wx d 56 4 ls st σ Q ↔ Li (lget ls 3) (fun z => Wx d 56 5 ls (vi z :: st) σ Q) := u_iload_n d56_4
theorem d56_5 : decode (mB 56) 5 = .ok (.ifCond .lt 38, 3) := by decide +kernel
theorem u56_5 {d : Nat} {ls : Lo} {st : List Va} {σ : Sg} {Q : Rs → Sg → Prop} {a : Int} (h : -2147483648 ≤ a ∧ a ≤ 2147483647) : Wx d 56 5 ls (vi a :: st) σ Q ↔ if a < 0 then Wx d 56 43 ls st σ Q else Wx d 56 8 ls st σ Q := u_iflt d56_5 (by decide) h
theorem d56_8 : decode (mB 56) 8 = .ok (.iconst 0, 1) := by decide +kernel
theorem u56_8 {d : Nat} {ls : Lo} {st : List Va} {σ : Sg} {Q : Rs → Sg → Prop} : Wx d 56 8 ls st σ Q ↔ Wx d 56 9 ls (vi 0 :: st) σ Q := u_iconst d56_8
theorem d56_9 : decode (mB 56) 9 = .ok (.istore 4, 2) := by decide +kernel
theorem u56_9 {d : Nat} {ls : Lo} {st : List Va} {σ : Sg} {Q : Rs → Sg → Prop} {z : Int} : Wx d 56 9 ls (vi z :: st) σ Q ↔ Wx d 56 11 (lset ls 4 (vi z)) st σ Q := u_istore d56_9 (by decide)
theorem d56_11 : decode (mB 56) 11 = .ok (.iload 4, 2) := by decide +kernel
theorem u56_11 {d : Nat} {ls : Lo} {st : List Va} {σ : Sg} {Q : Rs → Sg → Prop} : Wx d 56 11 ls st σ Q ↔ Li (lget ls 4) (fun z => Wx d 56 13 ls (vi z :: st) σ Q) := u_iload d56_11
theorem d56_13 : decode (mB 56) 13 = .ok (.aload_n 1, 1) := by decide +kernel
theorem u56_13 {d : Nat} {ls : Lo} {st : List Va} {σ : Sg} {Q : Rs → Sg → Prop} : Wx d 56 13 ls st σ Q ↔ Lr (lget ls 1) (fun z => Wx d 56 14 ls (.inr (.inl z) :: st) σ Q) := u_aload_n d56_13
theorem d56_14 : decode (mB 56) 14 = .ok (.iload_n 3, 1) := by decide +kernel
theorem u56_14 {d : Nat} {ls : Lo} {st : List Va} {σ : Sg} {Q : Rs → Sg → Prop} : Wx d 56 14 ls st σ Q ↔ Li (lget ls 3) (fun z => Wx d 56 15 ls (vi z :: st) σ Q) := u_iload_n d56_14
theorem d56_15 : decode (mB 56) 15 = .ok (.aaload, 1) := by decide +kernel
theorem u56_15 {d : Nat} {ls : Lo} {st : List Va} {σ : Sg} {Q : Rs → Sg → Prop} {z : Int} {g j : Nat} : Wx d 56 15 ls (vi z :: vr g j :: st) σ Q ↔ (isA g j 2 z ∨ isA g j 3 z) ∧ On (rf g j z.toNat) (fun w => Wx d 56 16 ls (.inr (.inl w) :: st) σ Q) := u_aald d56_15
theorem d56_16 : decode (mB 56) 16 = .ok (.getfield 43, 3) := by decide +kernel
theorem u56_16 {d : Nat} {ls : Lo} {st : List Va} {σ : Sg} {Q : Rs → Sg → Prop} {g j : Nat} : Wx d 56 16 ls (vr g j :: st) σ Q ↔ isO g j 3 ∧ Wx d 56 19 ls (fvv σ g j 16 :: st) σ Q := u_get (w := (3, 16)) d56_16 rfl
theorem d56_19 : decode (mB 56) 19 = .ok (.if_icmp .ge 18, 3) := by decide +kernel
theorem u56_19 {d : Nat} {ls : Lo} {st : List Va} {σ : Sg} {Q : Rs → Sg → Prop} {a b : Int} (h : -2147483648 ≤ a ∧ a ≤ 2147483647) (h2 : -2147483648 ≤ b ∧ b ≤ 2147483647) : Wx d 56 19 ls (vi b :: vi a :: st) σ Q ↔ if b ≤ a then Wx d 56 37 ls st σ Q else Wx d 56 22 ls st σ Q := u_icge d56_19 (by decide) h h2
theorem d56_22 : decode (mB 56) 22 = .ok (.aload_n 0, 1) := by decide +kernel
theorem u56_22 {d : Nat} {ls : Lo} {st : List Va} {σ : Sg} {Q : Rs → Sg → Prop} : Wx d 56 22 ls st σ Q ↔ Lr (lget ls 0) (fun z => Wx d 56 23 ls (.inr (.inl z) :: st) σ Q) := u_aload_n d56_22
theorem d56_23 : decode (mB 56) 23 = .ok (.aload_n 1, 1) := by decide +kernel
theorem u56_23 {d : Nat} {ls : Lo} {st : List Va} {σ : Sg} {Q : Rs → Sg → Prop} : Wx d 56 23 ls st σ Q ↔ Lr (lget ls 1) (fun z => Wx d 56 24 ls (.inr (.inl z) :: st) σ Q) := u_aload_n d56_23
theorem d56_24 : decode (mB 56) 24 = .ok (.iload_n 2, 1) := by decide +kernel
theorem u56_24 {d : Nat} {ls : Lo} {st : List Va} {σ : Sg} {Q : Rs → Sg → Prop} : Wx d 56 24 ls st σ Q ↔ Li (lget ls 2) (fun z => Wx d 56 25 ls (vi z :: st) σ Q) := u_iload_n d56_24
theorem d56_25 : decode (mB 56) 25 = .ok (.iload_n 3, 1) := by decide +kernel
theorem u56_25 {d : Nat} {ls : Lo} {st : List Va} {σ : Sg} {Q : Rs → Sg → Prop} : Wx d 56 25 ls st σ Q ↔ Li (lget ls 3) (fun z => Wx d 56 26 ls (vi z :: st) σ Q) := u_iload_n d56_25
theorem d56_26 : decode (mB 56) 26 = .ok (.iload 4, 2) := by decide +kernel
theorem u56_26 {d : Nat} {ls : Lo} {st : List Va} {σ : Sg} {Q : Rs → Sg → Prop} : Wx d 56 26 ls st σ Q ↔ Li (lget ls 4) (fun z => Wx d 56 28 ls (vi z :: st) σ Q) := u_iload d56_26
theorem d56_28 : decode (mB 56) 28 = .ok (.invokevirtual 47, 3) := by decide +kernel
theorem u56_28 {d : Nat} {ls : Lo} {st : List Va} {σ : Sg} {Q : Rs → Sg → Prop} {g j : Nat} {a1 a2 a3 a4 : Va} : Wx (d + 1) 56 28 ls (a4 :: a3 :: a2 :: a1 :: vr g j :: st) σ Q ↔ (isO g j 5 ∧ st.length ≤ 4 ∧ nlg [a4, a3, a2, a1] = true) ∧ Wm d 57 [vr g j, a1, a2, a3, a4] σ (Kc (d + 1) 56 31 ls st Q) := u_inv4 d56_28 rfl rfl rfl
theorem d56_31 : decode (mB 56) 31 = .ok (.iinc 4 1, 3) := by decide +kernel
theorem u56_31 {d : Nat} {ls : Lo} {st : List Va} {σ : Sg} {Q : Rs → Sg → Prop} : Wx d 56 31 ls st σ Q ↔ Li (lget ls 4) (fun z => Wx d 56 34 (lset ls 4 (vi (z + 1))) st σ Q) := u_iinc d56_31 (by decide)
theorem d56_34 : decode (mB 56) 34 = .ok (.goto (-23), 3) := by decide +kernel
theorem u56_34 {d : Nat} {ls : Lo} {st : List Va} {σ : Sg} {Q : Rs → Sg → Prop} : Wx d 56 34 ls st σ Q ↔ Wx d 56 11 ls st σ Q := u_goto d56_34 (by decide)
theorem d56_37 : decode (mB 56) 37 = .ok (.iinc 3 (-1), 3) := by decide +kernel
theorem u56_37 {d : Nat} {ls : Lo} {st : List Va} {σ : Sg} {Q : Rs → Sg → Prop} : Wx d 56 37 ls st σ Q ↔ Li (lget ls 3) (fun z => Wx d 56 40 (lset ls 3 (vi (z + (-1)))) st σ Q) := u_iinc d56_37 (by decide)
theorem d56_40 : decode (mB 56) 40 = .ok (.goto (-36), 3) := by decide +kernel
theorem u56_40 {d : Nat} {ls : Lo} {st : List Va} {σ : Sg} {Q : Rs → Sg → Prop} : Wx d 56 40 ls st σ Q ↔ Wx d 56 4 ls st σ Q := u_goto d56_40 (by decide)
theorem d56_43 : decode (mB 56) 43 = .ok (.aload_n 0, 1) := by decide +kernel
theorem u56_43 {d : Nat} {ls : Lo} {st : List Va} {σ : Sg} {Q : Rs → Sg → Prop} : Wx d 56 43 ls st σ Q ↔ Lr (lget ls 0) (fun z => Wx d 56 44 ls (.inr (.inl z) :: st) σ Q) := u_aload_n d56_43
theorem d56_44 : decode (mB 56) 44 = .ok (.aload_n 1, 1) := by decide +kernel
theorem u56_44 {d : Nat} {ls : Lo} {st : List Va} {σ : Sg} {Q : Rs → Sg → Prop} : Wx d 56 44 ls st σ Q ↔ Lr (lget ls 1) (fun z => Wx d 56 45 ls (.inr (.inl z) :: st) σ Q) := u_aload_n d56_44
theorem d56_45 : decode (mB 56) 45 = .ok (.iconst 0, 1) := by decide +kernel
theorem u56_45 {d : Nat} {ls : Lo} {st : List Va} {σ : Sg} {Q : Rs → Sg → Prop} : Wx d 56 45 ls st σ Q ↔ Wx d 56 46 ls (vi 0 :: st) σ Q := u_iconst d56_45
theorem d56_46 : decode (mB 56) 46 = .ok (.aaload, 1) := by decide +kernel
theorem u56_46 {d : Nat} {ls : Lo} {st : List Va} {σ : Sg} {Q : Rs → Sg → Prop} {z : Int} {g j : Nat} : Wx d 56 46 ls (vi z :: vr g j :: st) σ Q ↔ (isA g j 2 z ∨ isA g j 3 z) ∧ On (rf g j z.toNat) (fun w => Wx d 56 47 ls (.inr (.inl w) :: st) σ Q) := u_aald d56_46
theorem d56_47 : decode (mB 56) 47 = .ok (.getfield 43, 3) := by decide +kernel
theorem u56_47 {d : Nat} {ls : Lo} {st : List Va} {σ : Sg} {Q : Rs → Sg → Prop} {g j : Nat} : Wx d 56 47 ls (vr g j :: st) σ Q ↔ isO g j 3 ∧ Wx d 56 50 ls (fvv σ g j 16 :: st) σ Q := u_get (w := (3, 16)) d56_47 rfl
theorem d56_50 : decode (mB 56) 50 = .ok (.invokevirtual 51, 3) := by decide +kernel
theorem u56_50 {d : Nat} {ls : Lo} {st : List Va} {σ : Sg} {Q : Rs → Sg → Prop} {g j : Nat} {a1 : Va} : Wx (d + 1) 56 50 ls (a1 :: vr g j :: st) σ Q ↔ (isO g j 5 ∧ st.length ≤ 4 ∧ nlg [a1] = true) ∧ Wm d 58 [vr g j, a1] σ (Kc (d + 1) 56 53 ls st Q) := u_inv1 d56_50 rfl rfl rfl
theorem d56_53 : decode (mB 56) 53 = .ok (.istore_n 3, 1) := by decide +kernel
theorem u56_53 {d : Nat} {ls : Lo} {st : List Va} {σ : Sg} {Q : Rs → Sg → Prop} {z : Int} : Wx d 56 53 ls (vi z :: st) σ Q ↔ Wx d 56 54 (lset ls 3 (vi z)) st σ Q := u_istore_n d56_53 (by decide)
theorem d56_54 : decode (mB 56) 54 = .ok (.aload_n 0, 1) := by decide +kernel
theorem u56_54 {d : Nat} {ls : Lo} {st : List Va} {σ : Sg} {Q : Rs → Sg → Prop} : Wx d 56 54 ls st σ Q ↔ Lr (lget ls 0) (fun z => Wx d 56 55 ls (.inr (.inl z) :: st) σ Q) := u_aload_n d56_54
theorem d56_55 : decode (mB 56) 55 = .ok (.iload_n 3, 1) := by decide +kernel
theorem u56_55 {d : Nat} {ls : Lo} {st : List Va} {σ : Sg} {Q : Rs → Sg → Prop} : Wx d 56 55 ls st σ Q ↔ Li (lget ls 3) (fun z => Wx d 56 56 ls (vi z :: st) σ Q) := u_iload_n d56_55
theorem d56_56 : decode (mB 56) 56 = .ok (.iconst (-1), 1) := by decide +kernel
theorem u56_56 {d : Nat} {ls : Lo} {st : List Va} {σ : Sg} {Q : Rs → Sg → Prop} : Wx d 56 56 ls st σ Q ↔ Wx d 56 57 ls (vi (-1) :: st) σ Q := u_iconst d56_56
theorem d56_57 : decode (mB 56) 57 = .ok (.if_icmp .eq 7, 3) := by decide +kernel
theorem u56_57 {d : Nat} {ls : Lo} {st : List Va} {σ : Sg} {Q : Rs → Sg → Prop} {a b : Int} (h : -2147483648 ≤ a ∧ a ≤ 2147483647) (h2 : -2147483648 ≤ b ∧ b ≤ 2147483647) : Wx d 56 57 ls (vi b :: vi a :: st) σ Q ↔ if a = b then Wx d 56 64 ls st σ Q else Wx d 56 60 ls st σ Q := u_iceq d56_57 (by decide) h h2
theorem d56_60 : decode (mB 56) 60 = .ok (.iconst 1, 1) := by decide +kernel
theorem u56_60 {d : Nat} {ls : Lo} {st : List Va} {σ : Sg} {Q : Rs → Sg → Prop} : Wx d 56 60 ls st σ Q ↔ Wx d 56 61 ls (vi 1 :: st) σ Q := u_iconst d56_60
theorem d56_61 : decode (mB 56) 61 = .ok (.goto 4, 3) := by decide +kernel
theorem u56_61 {d : Nat} {ls : Lo} {st : List Va} {σ : Sg} {Q : Rs → Sg → Prop} : Wx d 56 61 ls st σ Q ↔ Wx d 56 65 ls st σ Q := u_goto d56_61 (by decide)
theorem d56_64 : decode (mB 56) 64 = .ok (.iconst 0, 1) := by decide +kernel
theorem u56_64 {d : Nat} {ls : Lo} {st : List Va} {σ : Sg} {Q : Rs → Sg → Prop} : Wx d 56 64 ls st σ Q ↔ Wx d 56 65 ls (vi 0 :: st) σ Q := u_iconst d56_64
theorem d56_65 : decode (mB 56) 65 = .ok (.putfield 39, 3) := by decide +kernel
theorem u56_65 {d : Nat} {ls : Lo} {st : List Va} {σ : Sg} {Q : Rs → Sg → Prop} {z : Int} {g j : Nat} : Wx d 56 65 ls (vi z :: vr g j :: st) σ Q ↔ (isO g j 5 ∧ rf g j 6 = none ∧ (z = 0 ∨ z = 1)) ∧ Wx d 56 68 ls st (up σ g j 6 z) Q := u_putz (w := (5, 6)) d56_65 rfl rfl rfl
theorem d56_68 : decode (mB 56) 68 = .ok (.aload_n 0, 1) := by decide +kernel
theorem u56_68 {d : Nat} {ls : Lo} {st : List Va} {σ : Sg} {Q : Rs → Sg → Prop} : Wx d 56 68 ls st σ Q ↔ Lr (lget ls 0) (fun z => Wx d 56 69 ls (.inr (.inl z) :: st) σ Q) := u_aload_n d56_68
theorem d56_69 : decode (mB 56) 69 = .ok (.getfield 39, 3) := by decide +kernel
theorem u56_69 {d : Nat} {ls : Lo} {st : List Va} {σ : Sg} {Q : Rs → Sg → Prop} {g j : Nat} : Wx d 56 69 ls (vr g j :: st) σ Q ↔ isO g j 5 ∧ Wx d 56 72 ls (fvv σ g j 6 :: st) σ Q := u_get (w := (5, 6)) d56_69 rfl
theorem d56_72 : decode (mB 56) 72 = .ok (.ifCond .ne 5, 3) := by decide +kernel
theorem u56_72 {d : Nat} {ls : Lo} {st : List Va} {σ : Sg} {Q : Rs → Sg → Prop} {a : Int} (h : -2147483648 ≤ a ∧ a ≤ 2147483647) : Wx d 56 72 ls (vi a :: st) σ Q ↔ if ¬ a = 0 then Wx d 56 77 ls st σ Q else Wx d 56 75 ls st σ Q := u_ifne d56_72 (by decide) h
theorem d56_75 : decode (mB 56) 75 = .ok (.iconst (-1), 1) := by decide +kernel
theorem u56_75 {d : Nat} {ls : Lo} {st : List Va} {σ : Sg} {Q : Rs → Sg → Prop} : Wx d 56 75 ls st σ Q ↔ Wx d 56 76 ls (vi (-1) :: st) σ Q := u_iconst d56_75
theorem d56_76 : decode (mB 56) 76 = .ok (.ireturn, 1) := by decide +kernel
theorem u56_76 {d : Nat} {ls : Lo} {σ : Sg} {Q : Rs → Sg → Prop} {z : Int} : Wx d 56 76 ls [vi z] σ Q ↔ Q (.inl (some (vi z))) σ := u_iret d56_76 rfl
theorem d56_77 : decode (mB 56) 77 = .ok (.aload_n 0, 1) := by decide +kernel
theorem u56_77 {d : Nat} {ls : Lo} {st : List Va} {σ : Sg} {Q : Rs → Sg → Prop} : Wx d 56 77 ls st σ Q ↔ Lr (lget ls 0) (fun z => Wx d 56 78 ls (.inr (.inl z) :: st) σ Q) := u_aload_n d56_77
theorem d56_78 : decode (mB 56) 78 = .ok (.iload_n 3, 1) := by decide +kernel
theorem u56_78 {d : Nat} {ls : Lo} {st : List Va} {σ : Sg} {Q : Rs → Sg → Prop} : Wx d 56 78 ls st σ Q ↔ Li (lget ls 3) (fun z => Wx d 56 79 ls (vi z :: st) σ Q) := u_iload_n d56_78
theorem d56_79 : decode (mB 56) 79 = .ok (.iload_n 2, 1) := by decide +kernel
theorem u56_79 {d : Nat} {ls : Lo} {st : List Va} {σ : Sg} {Q : Rs → Sg → Prop} : Wx d 56 79 ls st σ Q ↔ Li (lget ls 2) (fun z => Wx d 56 80 ls (vi z :: st) σ Q) := u_iload_n d56_79
theorem d56_80 : decode (mB 56) 80 = .ok (.invokevirtual 55, 3) := by decide +kernel
theorem u56_80 {d : Nat} {ls : Lo} {st : List Va} {σ : Sg} {Q : Rs → Sg → Prop} {g j : Nat} {a1 a2 : Va} : Wx (d + 1) 56 80 ls (a2 :: a1 :: vr g j :: st) σ Q ↔ (isO g j 5 ∧ st.length ≤ 4 ∧ nlg [a2, a1] = true) ∧ Wm d 59 [vr g j, a1, a2] σ (Kc (d + 1) 56 83 ls st Q) := u_inv2 d56_80 rfl rfl rfl
theorem d56_83 : decode (mB 56) 83 = .ok (.aload_n 0, 1) := by decide +kernel
theorem u56_83 {d : Nat} {ls : Lo} {st : List Va} {σ : Sg} {Q : Rs → Sg → Prop} : Wx d 56 83 ls st σ Q ↔ Lr (lget ls 0) (fun z => Wx d 56 84 ls (.inr (.inl z) :: st) σ Q) := u_aload_n d56_83
theorem d56_84 : decode (mB 56) 84 = .ok (.getfield 22, 3) := by decide +kernel
theorem u56_84 {d : Nat} {ls : Lo} {st : List Va} {σ : Sg} {Q : Rs → Sg → Prop} {g j : Nat} : Wx d 56 84 ls (vr g j :: st) σ Q ↔ isO g j 5 ∧ Wx d 56 87 ls (fvv σ g j 1 :: st) σ Q := u_get (w := (5, 1)) d56_84 rfl
theorem d56_87 : decode (mB 56) 87 = .ok (.iconst 0, 1) := by decide +kernel
theorem u56_87 {d : Nat} {ls : Lo} {st : List Va} {σ : Sg} {Q : Rs → Sg → Prop} : Wx d 56 87 ls st σ Q ↔ Wx d 56 88 ls (vi 0 :: st) σ Q := u_iconst d56_87
theorem d56_88 : decode (mB 56) 88 = .ok (.aaload, 1) := by decide +kernel
theorem u56_88 {d : Nat} {ls : Lo} {st : List Va} {σ : Sg} {Q : Rs → Sg → Prop} {z : Int} {g j : Nat} : Wx d 56 88 ls (vi z :: vr g j :: st) σ Q ↔ (isA g j 2 z ∨ isA g j 3 z) ∧ On (rf g j z.toNat) (fun w => Wx d 56 89 ls (.inr (.inl w) :: st) σ Q) := u_aald d56_88
theorem d56_89 : decode (mB 56) 89 = .ok (.iload_n 3, 1) := by decide +kernel
theorem u56_89 {d : Nat} {ls : Lo} {st : List Va} {σ : Sg} {Q : Rs → Sg → Prop} : Wx d 56 89 ls st σ Q ↔ Li (lget ls 3) (fun z => Wx d 56 90 ls (vi z :: st) σ Q) := u_iload_n d56_89
theorem d56_90 : decode (mB 56) 90 = .ok (.iaload, 1) := by decide +kernel
theorem u56_90 {d : Nat} {ls : Lo} {st : List Va} {σ : Sg} {Q : Rs → Sg → Prop} {z : Int} {g j : Nat} : Wx d 56 90 ls (vi z :: vr g j :: st) σ Q ↔ On (ial σ g j z) (fun x => Wx d 56 91 ls (vi x :: st) σ Q) := u_iald d56_90
theorem d56_91 : decode (mB 56) 91 = .ok (.ireturn, 1) := by decide +kernel
theorem u56_91 {d : Nat} {ls : Lo} {σ : Sg} {Q : Rs → Sg → Prop} {z : Int} : Wx d 56 91 ls [vi z] σ Q ↔ Q (.inl (some (vi z))) σ := u_iret d56_91 rfl
/-! 57: FiguredBass$Realisation.weigh([LFiguredBass$Chord;III)V -/
theorem d57_0 : decode (mB 57) 0 = .ok (.aload_n 1, 1) := by decide +kernel
theorem u57_0 {d : Nat} {ls : Lo} {st : List Va} {σ : Sg} {Q : Rs → Sg → Prop} : Wx d 57 0 ls st σ Q ↔ Lr (lget ls 1) (fun z => Wx d 57 1 ls (.inr (.inl z) :: st) σ Q) := u_aload_n d57_0
theorem d57_1 : decode (mB 57) 1 = .ok (.iload_n 3, 1) := by decide +kernel
theorem u57_1 {d : Nat} {ls : Lo} {st : List Va} {σ : Sg} {Q : Rs → Sg → Prop} : Wx d 57 1 ls st σ Q ↔ Li (lget ls 3) (fun z => Wx d 57 2 ls (vi z :: st) σ Q) := u_iload_n d57_1
theorem d57_2 : decode (mB 57) 2 = .ok (.aaload, 1) := by decide +kernel
theorem u57_2 {d : Nat} {ls : Lo} {st : List Va} {σ : Sg} {Q : Rs → Sg → Prop} {z : Int} {g j : Nat} : Wx d 57 2 ls (vi z :: vr g j :: st) σ Q ↔ (isA g j 2 z ∨ isA g j 3 z) ∧ On (rf g j z.toNat) (fun w => Wx d 57 3 ls (.inr (.inl w) :: st) σ Q) := u_aald d57_2
theorem d57_3 : decode (mB 57) 3 = .ok (.iload 4, 2) := by decide +kernel
theorem u57_3 {d : Nat} {ls : Lo} {st : List Va} {σ : Sg} {Q : Rs → Sg → Prop} : Wx d 57 3 ls st σ Q ↔ Li (lget ls 4) (fun z => Wx d 57 5 ls (vi z :: st) σ Q) := u_iload d57_3
theorem d57_5 : decode (mB 57) 5 = .ok (.invokevirtual 59, 3) := by decide +kernel
theorem u57_5 {d : Nat} {ls : Lo} {st : List Va} {σ : Sg} {Q : Rs → Sg → Prop} {g j : Nat} {a1 : Va} : Wx (d + 1) 57 5 ls (a1 :: vr g j :: st) σ Q ↔ (isO g j 3 ∧ st.length ≤ 4 ∧ nlg [a1] = true) ∧ Wm d 45 [vr g j, a1] σ (Kc (d + 1) 57 8 ls st Q) := u_inv1 d57_5 rfl rfl rfl
theorem d57_8 : decode (mB 57) 8 = .ok (.istore 5, 2) := by decide +kernel
theorem u57_8 {d : Nat} {ls : Lo} {st : List Va} {σ : Sg} {Q : Rs → Sg → Prop} {z : Int} : Wx d 57 8 ls (vi z :: st) σ Q ↔ Wx d 57 10 (lset ls 5 (vi z)) st σ Q := u_istore d57_8 (by decide)
theorem d57_10 : decode (mB 57) 10 = .ok (.iload_n 3, 1) := by decide +kernel
theorem u57_10 {d : Nat} {ls : Lo} {st : List Va} {σ : Sg} {Q : Rs → Sg → Prop} : Wx d 57 10 ls st σ Q ↔ Li (lget ls 3) (fun z => Wx d 57 11 ls (vi z :: st) σ Q) := u_iload_n d57_10
theorem d57_11 : decode (mB 57) 11 = .ok (.iconst 1, 1) := by decide +kernel
theorem u57_11 {d : Nat} {ls : Lo} {st : List Va} {σ : Sg} {Q : Rs → Sg → Prop} : Wx d 57 11 ls st σ Q ↔ Wx d 57 12 ls (vi 1 :: st) σ Q := u_iconst d57_11
theorem d57_12 : decode (mB 57) 12 = .ok (.iadd, 1) := by decide +kernel
theorem u57_12 {d : Nat} {ls : Lo} {st : List Va} {σ : Sg} {Q : Rs → Sg → Prop} {a b : Int} : Wx d 57 12 ls (vi b :: vi a :: st) σ Q ↔ Wx d 57 13 ls (vi (a + b) :: st) σ Q := u_iadd d57_12
theorem d57_13 : decode (mB 57) 13 = .ok (.iload_n 2, 1) := by decide +kernel
theorem u57_13 {d : Nat} {ls : Lo} {st : List Va} {σ : Sg} {Q : Rs → Sg → Prop} : Wx d 57 13 ls st σ Q ↔ Li (lget ls 2) (fun z => Wx d 57 14 ls (vi z :: st) σ Q) := u_iload_n d57_13
theorem d57_14 : decode (mB 57) 14 = .ok (.if_icmp .lt 15, 3) := by decide +kernel
theorem u57_14 {d : Nat} {ls : Lo} {st : List Va} {σ : Sg} {Q : Rs → Sg → Prop} {a b : Int} (h : -2147483648 ≤ a ∧ a ≤ 2147483647) (h2 : -2147483648 ≤ b ∧ b ≤ 2147483647) : Wx d 57 14 ls (vi b :: vi a :: st) σ Q ↔ if a < b then Wx d 57 29 ls st σ Q else Wx d 57 17 ls st σ Q := u_iclt d57_14 (by decide) h h2
theorem d57_17 : decode (mB 57) 17 = .ok (.aload_n 0, 1) := by decide +kernel
theorem u57_17 {d : Nat} {ls : Lo} {st : List Va} {σ : Sg} {Q : Rs → Sg → Prop} : Wx d 57 17 ls st σ Q ↔ Lr (lget ls 0) (fun z => Wx d 57 18 ls (.inr (.inl z) :: st) σ Q) := u_aload_n d57_17
theorem d57_18 : decode (mB 57) 18 = .ok (.getfield 22, 3) := by decide +kernel
theorem u57_18 {d : Nat} {ls : Lo} {st : List Va} {σ : Sg} {Q : Rs → Sg → Prop} {g j : Nat} : Wx d 57 18 ls (vr g j :: st) σ Q ↔ isO g j 5 ∧ Wx d 57 21 ls (fvv σ g j 1 :: st) σ Q := u_get (w := (5, 1)) d57_18 rfl
theorem d57_21 : decode (mB 57) 21 = .ok (.iload_n 3, 1) := by decide +kernel
theorem u57_21 {d : Nat} {ls : Lo} {st : List Va} {σ : Sg} {Q : Rs → Sg → Prop} : Wx d 57 21 ls st σ Q ↔ Li (lget ls 3) (fun z => Wx d 57 22 ls (vi z :: st) σ Q) := u_iload_n d57_21
theorem d57_22 : decode (mB 57) 22 = .ok (.aaload, 1) := by decide +kernel
theorem u57_22 {d : Nat} {ls : Lo} {st : List Va} {σ : Sg} {Q : Rs → Sg → Prop} {z : Int} {g j : Nat} : Wx d 57 22 ls (vi z :: vr g j :: st) σ Q ↔ (isA g j 2 z ∨ isA g j 3 z) ∧ On (rf g j z.toNat) (fun w => Wx d 57 23 ls (.inr (.inl w) :: st) σ Q) := u_aald d57_22
theorem d57_23 : decode (mB 57) 23 = .ok (.iload 4, 2) := by decide +kernel
theorem u57_23 {d : Nat} {ls : Lo} {st : List Va} {σ : Sg} {Q : Rs → Sg → Prop} : Wx d 57 23 ls st σ Q ↔ Li (lget ls 4) (fun z => Wx d 57 25 ls (vi z :: st) σ Q) := u_iload d57_23
theorem d57_25 : decode (mB 57) 25 = .ok (.iload 5, 2) := by decide +kernel
theorem u57_25 {d : Nat} {ls : Lo} {st : List Va} {σ : Sg} {Q : Rs → Sg → Prop} : Wx d 57 25 ls st σ Q ↔ Li (lget ls 5) (fun z => Wx d 57 27 ls (vi z :: st) σ Q) := u_iload d57_25
theorem d57_27 : decode (mB 57) 27 = .ok (.iastore, 1) := by decide +kernel
theorem u57_27 {d : Nat} {ls : Lo} {st : List Va} {σ : Sg} {Q : Rs → Sg → Prop} {x z : Int} {g j : Nat} : Wx d 57 27 ls (vi x :: vi z :: vr g j :: st) σ Q ↔ isA g j 0 z ∧ Wx d 57 28 ls st (up σ g j z.toNat x) Q := u_iast d57_27
theorem d57_28 : decode (mB 57) 28 = .ok (.return_, 1) := by decide +kernel
theorem u57_28 {d : Nat} {ls : Lo} {σ : Sg} {Q : Rs → Sg → Prop} : Wx d 57 28 ls [] σ Q ↔ Q (.inl none) σ := u_vret d57_28 rfl
theorem d57_29 : decode (mB 57) 29 = .ok (.iconst (-1), 1) := by decide +kernel
theorem u57_29 {d : Nat} {ls : Lo} {st : List Va} {σ : Sg} {Q : Rs → Sg → Prop} : Wx d 57 29 ls st σ Q ↔ Wx d 57 30 ls (vi (-1) :: st) σ Q := u_iconst d57_29
theorem d57_30 : decode (mB 57) 30 = .ok (.istore 6, 2) := by decide +kernel
theorem u57_30 {d : Nat} {ls : Lo} {st : List Va} {σ : Sg} {Q : Rs → Sg → Prop} {z : Int} : Wx d 57 30 ls (vi z :: st) σ Q ↔ Wx d 57 32 (lset ls 6 (vi z)) st σ Q := u_istore d57_30 (by decide)
theorem d57_32 : decode (mB 57) 32 = .ok (.aload_n 0, 1) := by decide +kernel
theorem u57_32 {d : Nat} {ls : Lo} {st : List Va} {σ : Sg} {Q : Rs → Sg → Prop} : Wx d 57 32 ls st σ Q ↔ Lr (lget ls 0) (fun z => Wx d 57 33 ls (.inr (.inl z) :: st) σ Q) := u_aload_n d57_32
theorem d57_33 : decode (mB 57) 33 = .ok (.getfield 12, 3) := by decide +kernel
theorem u57_33 {d : Nat} {ls : Lo} {st : List Va} {σ : Sg} {Q : Rs → Sg → Prop} {g j : Nat} : Wx d 57 33 ls (vr g j :: st) σ Q ↔ isO g j 5 ∧ Wx d 57 36 ls (fvv σ g j 0 :: st) σ Q := u_get (w := (5, 0)) d57_33 rfl
theorem d57_36 : decode (mB 57) 36 = .ok (.aload_n 1, 1) := by decide +kernel
theorem u57_36 {d : Nat} {ls : Lo} {st : List Va} {σ : Sg} {Q : Rs → Sg → Prop} : Wx d 57 36 ls st σ Q ↔ Lr (lget ls 1) (fun z => Wx d 57 37 ls (.inr (.inl z) :: st) σ Q) := u_aload_n d57_36
theorem d57_37 : decode (mB 57) 37 = .ok (.iload_n 3, 1) := by decide +kernel
theorem u57_37 {d : Nat} {ls : Lo} {st : List Va} {σ : Sg} {Q : Rs → Sg → Prop} : Wx d 57 37 ls st σ Q ↔ Li (lget ls 3) (fun z => Wx d 57 38 ls (vi z :: st) σ Q) := u_iload_n d57_37
theorem d57_38 : decode (mB 57) 38 = .ok (.aaload, 1) := by decide +kernel
theorem u57_38 {d : Nat} {ls : Lo} {st : List Va} {σ : Sg} {Q : Rs → Sg → Prop} {z : Int} {g j : Nat} : Wx d 57 38 ls (vi z :: vr g j :: st) σ Q ↔ (isA g j 2 z ∨ isA g j 3 z) ∧ On (rf g j z.toNat) (fun w => Wx d 57 39 ls (.inr (.inl w) :: st) σ Q) := u_aald d57_38
theorem d57_39 : decode (mB 57) 39 = .ok (.iload 4, 2) := by decide +kernel
theorem u57_39 {d : Nat} {ls : Lo} {st : List Va} {σ : Sg} {Q : Rs → Sg → Prop} : Wx d 57 39 ls st σ Q ↔ Li (lget ls 4) (fun z => Wx d 57 41 ls (vi z :: st) σ Q) := u_iload d57_39
theorem d57_41 : decode (mB 57) 41 = .ok (.invokevirtual 62, 3) := by decide +kernel
theorem u57_41 {d : Nat} {ls : Lo} {st : List Va} {σ : Sg} {Q : Rs → Sg → Prop} {g j : Nat} {a1 a2 : Va} : Wx (d + 1) 57 41 ls (a2 :: a1 :: vr g j :: st) σ Q ↔ (isO g j 4 ∧ st.length ≤ 4 ∧ nlg [a2, a1] = true) ∧ Wm d 47 [vr g j, a1, a2] σ (Kc (d + 1) 57 44 ls st Q) := u_inv2 d57_41 rfl rfl rfl
theorem d57_44 : decode (mB 57) 44 = .ok (.iconst 0, 1) := by decide +kernel
theorem u57_44 {d : Nat} {ls : Lo} {st : List Va} {σ : Sg} {Q : Rs → Sg → Prop} : Wx d 57 44 ls st σ Q ↔ Wx d 57 45 ls (vi 0 :: st) σ Q := u_iconst d57_44
theorem d57_45 : decode (mB 57) 45 = .ok (.istore 7, 2) := by decide +kernel
theorem u57_45 {d : Nat} {ls : Lo} {st : List Va} {σ : Sg} {Q : Rs → Sg → Prop} {z : Int} : Wx d 57 45 ls (vi z :: st) σ Q ↔ Wx d 57 47 (lset ls 7 (vi z)) st σ Q := u_istore d57_45 (by decide)
theorem d57_47 : decode (mB 57) 47 = .ok (.iload 7, 2) := by decide +kernel
theorem u57_47 {d : Nat} {ls : Lo} {st : List Va} {σ : Sg} {Q : Rs → Sg → Prop} : Wx d 57 47 ls st σ Q ↔ Li (lget ls 7) (fun z => Wx d 57 49 ls (vi z :: st) σ Q) := u_iload d57_47
theorem d57_49 : decode (mB 57) 49 = .ok (.aload_n 1, 1) := by decide +kernel
theorem u57_49 {d : Nat} {ls : Lo} {st : List Va} {σ : Sg} {Q : Rs → Sg → Prop} : Wx d 57 49 ls st σ Q ↔ Lr (lget ls 1) (fun z => Wx d 57 50 ls (.inr (.inl z) :: st) σ Q) := u_aload_n d57_49
theorem d57_50 : decode (mB 57) 50 = .ok (.iload_n 3, 1) := by decide +kernel
theorem u57_50 {d : Nat} {ls : Lo} {st : List Va} {σ : Sg} {Q : Rs → Sg → Prop} : Wx d 57 50 ls st σ Q ↔ Li (lget ls 3) (fun z => Wx d 57 51 ls (vi z :: st) σ Q) := u_iload_n d57_50
theorem d57_51 : decode (mB 57) 51 = .ok (.iconst 1, 1) := by decide +kernel
theorem u57_51 {d : Nat} {ls : Lo} {st : List Va} {σ : Sg} {Q : Rs → Sg → Prop} : Wx d 57 51 ls st σ Q ↔ Wx d 57 52 ls (vi 1 :: st) σ Q := u_iconst d57_51
theorem d57_52 : decode (mB 57) 52 = .ok (.iadd, 1) := by decide +kernel
theorem u57_52 {d : Nat} {ls : Lo} {st : List Va} {σ : Sg} {Q : Rs → Sg → Prop} {a b : Int} : Wx d 57 52 ls (vi b :: vi a :: st) σ Q ↔ Wx d 57 53 ls (vi (a + b) :: st) σ Q := u_iadd d57_52
theorem d57_53 : decode (mB 57) 53 = .ok (.aaload, 1) := by decide +kernel
theorem u57_53 {d : Nat} {ls : Lo} {st : List Va} {σ : Sg} {Q : Rs → Sg → Prop} {z : Int} {g j : Nat} : Wx d 57 53 ls (vi z :: vr g j :: st) σ Q ↔ (isA g j 2 z ∨ isA g j 3 z) ∧ On (rf g j z.toNat) (fun w => Wx d 57 54 ls (.inr (.inl w) :: st) σ Q) := u_aald d57_53
theorem d57_54 : decode (mB 57) 54 = .ok (.getfield 43, 3) := by decide +kernel
theorem u57_54 {d : Nat} {ls : Lo} {st : List Va} {σ : Sg} {Q : Rs → Sg → Prop} {g j : Nat} : Wx d 57 54 ls (vr g j :: st) σ Q ↔ isO g j 3 ∧ Wx d 57 57 ls (fvv σ g j 16 :: st) σ Q := u_get (w := (3, 16)) d57_54 rfl
theorem d57_57 : decode (mB 57) 57 = .ok (.if_icmp .ge 100, 3) := by decide +kernel
theorem u57_57 {d : Nat} {ls : Lo} {st : List Va} {σ : Sg} {Q : Rs → Sg → Prop} {a b : Int} (h : -2147483648 ≤ a ∧ a ≤ 2147483647) (h2 : -2147483648 ≤ b ∧ b ≤ 2147483647) : Wx d 57 57 ls (vi b :: vi a :: st) σ Q ↔ if b ≤ a then Wx d 57 157 ls st σ Q else Wx d 57 60 ls st σ Q := u_icge d57_57 (by decide) h h2
theorem d57_60 : decode (mB 57) 60 = .ok (.aload_n 0, 1) := by decide +kernel
theorem u57_60 {d : Nat} {ls : Lo} {st : List Va} {σ : Sg} {Q : Rs → Sg → Prop} : Wx d 57 60 ls st σ Q ↔ Lr (lget ls 0) (fun z => Wx d 57 61 ls (.inr (.inl z) :: st) σ Q) := u_aload_n d57_60
theorem d57_61 : decode (mB 57) 61 = .ok (.getfield 22, 3) := by decide +kernel
theorem u57_61 {d : Nat} {ls : Lo} {st : List Va} {σ : Sg} {Q : Rs → Sg → Prop} {g j : Nat} : Wx d 57 61 ls (vr g j :: st) σ Q ↔ isO g j 5 ∧ Wx d 57 64 ls (fvv σ g j 1 :: st) σ Q := u_get (w := (5, 1)) d57_61 rfl
theorem d57_64 : decode (mB 57) 64 = .ok (.iload_n 3, 1) := by decide +kernel
theorem u57_64 {d : Nat} {ls : Lo} {st : List Va} {σ : Sg} {Q : Rs → Sg → Prop} : Wx d 57 64 ls st σ Q ↔ Li (lget ls 3) (fun z => Wx d 57 65 ls (vi z :: st) σ Q) := u_iload_n d57_64
theorem d57_65 : decode (mB 57) 65 = .ok (.iconst 1, 1) := by decide +kernel
theorem u57_65 {d : Nat} {ls : Lo} {st : List Va} {σ : Sg} {Q : Rs → Sg → Prop} : Wx d 57 65 ls st σ Q ↔ Wx d 57 66 ls (vi 1 :: st) σ Q := u_iconst d57_65
theorem d57_66 : decode (mB 57) 66 = .ok (.iadd, 1) := by decide +kernel
theorem u57_66 {d : Nat} {ls : Lo} {st : List Va} {σ : Sg} {Q : Rs → Sg → Prop} {a b : Int} : Wx d 57 66 ls (vi b :: vi a :: st) σ Q ↔ Wx d 57 67 ls (vi (a + b) :: st) σ Q := u_iadd d57_66
theorem d57_67 : decode (mB 57) 67 = .ok (.aaload, 1) := by decide +kernel
theorem u57_67 {d : Nat} {ls : Lo} {st : List Va} {σ : Sg} {Q : Rs → Sg → Prop} {z : Int} {g j : Nat} : Wx d 57 67 ls (vi z :: vr g j :: st) σ Q ↔ (isA g j 2 z ∨ isA g j 3 z) ∧ On (rf g j z.toNat) (fun w => Wx d 57 68 ls (.inr (.inl w) :: st) σ Q) := u_aald d57_67
theorem d57_68 : decode (mB 57) 68 = .ok (.iload 7, 2) := by decide +kernel
theorem u57_68 {d : Nat} {ls : Lo} {st : List Va} {σ : Sg} {Q : Rs → Sg → Prop} : Wx d 57 68 ls st σ Q ↔ Li (lget ls 7) (fun z => Wx d 57 70 ls (vi z :: st) σ Q) := u_iload d57_68
theorem d57_70 : decode (mB 57) 70 = .ok (.iaload, 1) := by decide +kernel
theorem u57_70 {d : Nat} {ls : Lo} {st : List Va} {σ : Sg} {Q : Rs → Sg → Prop} {z : Int} {g j : Nat} : Wx d 57 70 ls (vi z :: vr g j :: st) σ Q ↔ On (ial σ g j z) (fun x => Wx d 57 71 ls (vi x :: st) σ Q) := u_iald d57_70
theorem d57_71 : decode (mB 57) 71 = .ok (.iconst (-1), 1) := by decide +kernel
theorem u57_71 {d : Nat} {ls : Lo} {st : List Va} {σ : Sg} {Q : Rs → Sg → Prop} : Wx d 57 71 ls st σ Q ↔ Wx d 57 72 ls (vi (-1) :: st) σ Q := u_iconst d57_71
theorem d57_72 : decode (mB 57) 72 = .ok (.if_icmp .eq 79, 3) := by decide +kernel
theorem u57_72 {d : Nat} {ls : Lo} {st : List Va} {σ : Sg} {Q : Rs → Sg → Prop} {a b : Int} (h : -2147483648 ≤ a ∧ a ≤ 2147483647) (h2 : -2147483648 ≤ b ∧ b ≤ 2147483647) : Wx d 57 72 ls (vi b :: vi a :: st) σ Q ↔ if a = b then Wx d 57 151 ls st σ Q else Wx d 57 75 ls st σ Q := u_iceq d57_72 (by decide) h h2
theorem d57_75 : decode (mB 57) 75 = .ok (.aload_n 0, 1) := by decide +kernel
theorem u57_75 {d : Nat} {ls : Lo} {st : List Va} {σ : Sg} {Q : Rs → Sg → Prop} : Wx d 57 75 ls st σ Q ↔ Lr (lget ls 0) (fun z => Wx d 57 76 ls (.inr (.inl z) :: st) σ Q) := u_aload_n d57_75
theorem d57_76 : decode (mB 57) 76 = .ok (.getfield 12, 3) := by decide +kernel
theorem u57_76 {d : Nat} {ls : Lo} {st : List Va} {σ : Sg} {Q : Rs → Sg → Prop} {g j : Nat} : Wx d 57 76 ls (vr g j :: st) σ Q ↔ isO g j 5 ∧ Wx d 57 79 ls (fvv σ g j 0 :: st) σ Q := u_get (w := (5, 0)) d57_76 rfl
theorem d57_79 : decode (mB 57) 79 = .ok (.aload_n 1, 1) := by decide +kernel
theorem u57_79 {d : Nat} {ls : Lo} {st : List Va} {σ : Sg} {Q : Rs → Sg → Prop} : Wx d 57 79 ls st σ Q ↔ Lr (lget ls 1) (fun z => Wx d 57 80 ls (.inr (.inl z) :: st) σ Q) := u_aload_n d57_79
theorem d57_80 : decode (mB 57) 80 = .ok (.iload_n 3, 1) := by decide +kernel
theorem u57_80 {d : Nat} {ls : Lo} {st : List Va} {σ : Sg} {Q : Rs → Sg → Prop} : Wx d 57 80 ls st σ Q ↔ Li (lget ls 3) (fun z => Wx d 57 81 ls (vi z :: st) σ Q) := u_iload_n d57_80
theorem d57_81 : decode (mB 57) 81 = .ok (.iconst 1, 1) := by decide +kernel
theorem u57_81 {d : Nat} {ls : Lo} {st : List Va} {σ : Sg} {Q : Rs → Sg → Prop} : Wx d 57 81 ls st σ Q ↔ Wx d 57 82 ls (vi 1 :: st) σ Q := u_iconst d57_81
theorem d57_82 : decode (mB 57) 82 = .ok (.iadd, 1) := by decide +kernel
theorem u57_82 {d : Nat} {ls : Lo} {st : List Va} {σ : Sg} {Q : Rs → Sg → Prop} {a b : Int} : Wx d 57 82 ls (vi b :: vi a :: st) σ Q ↔ Wx d 57 83 ls (vi (a + b) :: st) σ Q := u_iadd d57_82
theorem d57_83 : decode (mB 57) 83 = .ok (.aaload, 1) := by decide +kernel
theorem u57_83 {d : Nat} {ls : Lo} {st : List Va} {σ : Sg} {Q : Rs → Sg → Prop} {z : Int} {g j : Nat} : Wx d 57 83 ls (vi z :: vr g j :: st) σ Q ↔ (isA g j 2 z ∨ isA g j 3 z) ∧ On (rf g j z.toNat) (fun w => Wx d 57 84 ls (.inr (.inl w) :: st) σ Q) := u_aald d57_83
theorem d57_84 : decode (mB 57) 84 = .ok (.iload 7, 2) := by decide +kernel
theorem u57_84 {d : Nat} {ls : Lo} {st : List Va} {σ : Sg} {Q : Rs → Sg → Prop} : Wx d 57 84 ls st σ Q ↔ Li (lget ls 7) (fun z => Wx d 57 86 ls (vi z :: st) σ Q) := u_iload d57_84
theorem d57_86 : decode (mB 57) 86 = .ok (.invokevirtual 66, 3) := by decide +kernel
theorem u57_86 {d : Nat} {ls : Lo} {st : List Va} {σ : Sg} {Q : Rs → Sg → Prop} {g j : Nat} {a1 a2 : Va} : Wx (d + 1) 57 86 ls (a2 :: a1 :: vr g j :: st) σ Q ↔ (isO g j 4 ∧ st.length ≤ 4 ∧ nlg [a2, a1] = true) ∧ Wm d 48 [vr g j, a1, a2] σ (Kc (d + 1) 57 89 ls st Q) := u_inv2 d57_86 rfl rfl rfl
theorem d57_89 : decode (mB 57) 89 = .ok (.iload 5, 2) := by decide +kernel
theorem u57_89 {d : Nat} {ls : Lo} {st : List Va} {σ : Sg} {Q : Rs → Sg → Prop} : Wx d 57 89 ls st σ Q ↔ Li (lget ls 5) (fun z => Wx d 57 91 ls (vi z :: st) σ Q) := u_iload d57_89
theorem d57_91 : decode (mB 57) 91 = .ok (.aload_n 0, 1) := by decide +kernel
theorem u57_91 {d : Nat} {ls : Lo} {st : List Va} {σ : Sg} {Q : Rs → Sg → Prop} : Wx d 57 91 ls st σ Q ↔ Lr (lget ls 0) (fun z => Wx d 57 92 ls (.inr (.inl z) :: st) σ Q) := u_aload_n d57_91
theorem d57_92 : decode (mB 57) 92 = .ok (.getfield 12, 3) := by decide +kernel
theorem u57_92 {d : Nat} {ls : Lo} {st : List Va} {σ : Sg} {Q : Rs → Sg → Prop} {g j : Nat} : Wx d 57 92 ls (vr g j :: st) σ Q ↔ isO g j 5 ∧ Wx d 57 95 ls (fvv σ g j 0 :: st) σ Q := u_get (w := (5, 0)) d57_92 rfl
theorem d57_95 : decode (mB 57) 95 = .ok (.invokevirtual 69, 3) := by decide +kernel
theorem u57_95 {d : Nat} {ls : Lo} {st : List Va} {σ : Sg} {Q : Rs → Sg → Prop} {g j : Nat} : Wx (d + 1) 57 95 ls (vr g j :: st) σ Q ↔ (isO g j 4 ∧ st.length ≤ 4 ∧ nlg [] = true) ∧ Wm d 49 [vr g j] σ (Kc (d + 1) 57 98 ls st Q) := u_inv0 d57_95 rfl rfl rfl
theorem d57_98 : decode (mB 57) 98 = .ok (.iadd, 1) := by decide +kernel
theorem u57_98 {d : Nat} {ls : Lo} {st : List Va} {σ : Sg} {Q : Rs → Sg → Prop} {a b : Int} : Wx d 57 98 ls (vi b :: vi a :: st) σ Q ↔ Wx d 57 99 ls (vi (a + b) :: st) σ Q := u_iadd d57_98
theorem d57_99 : decode (mB 57) 99 = .ok (.aload_n 0, 1) := by decide +kernel
theorem u57_99 {d : Nat} {ls : Lo} {st : List Va} {σ : Sg} {Q : Rs → Sg → Prop} : Wx d 57 99 ls st σ Q ↔ Lr (lget ls 0) (fun z => Wx d 57 100 ls (.inr (.inl z) :: st) σ Q) := u_aload_n d57_99
theorem d57_100 : decode (mB 57) 100 = .ok (.getfield 22, 3) := by decide +kernel
theorem u57_100 {d : Nat} {ls : Lo} {st : List Va} {σ : Sg} {Q : Rs → Sg → Prop} {g j : Nat} : Wx d 57 100 ls (vr g j :: st) σ Q ↔ isO g j 5 ∧ Wx d 57 103 ls (fvv σ g j 1 :: st) σ Q := u_get (w := (5, 1)) d57_100 rfl
theorem d57_103 : decode (mB 57) 103 = .ok (.iload_n 3, 1) := by decide +kernel
theorem u57_103 {d : Nat} {ls : Lo} {st : List Va} {σ : Sg} {Q : Rs → Sg → Prop} : Wx d 57 103 ls st σ Q ↔ Li (lget ls 3) (fun z => Wx d 57 104 ls (vi z :: st) σ Q) := u_iload_n d57_103
theorem d57_104 : decode (mB 57) 104 = .ok (.iconst 1, 1) := by decide +kernel
theorem u57_104 {d : Nat} {ls : Lo} {st : List Va} {σ : Sg} {Q : Rs → Sg → Prop} : Wx d 57 104 ls st σ Q ↔ Wx d 57 105 ls (vi 1 :: st) σ Q := u_iconst d57_104
theorem d57_105 : decode (mB 57) 105 = .ok (.iadd, 1) := by decide +kernel
theorem u57_105 {d : Nat} {ls : Lo} {st : List Va} {σ : Sg} {Q : Rs → Sg → Prop} {a b : Int} : Wx d 57 105 ls (vi b :: vi a :: st) σ Q ↔ Wx d 57 106 ls (vi (a + b) :: st) σ Q := u_iadd d57_105
theorem d57_106 : decode (mB 57) 106 = .ok (.aaload, 1) := by decide +kernel
theorem u57_106 {d : Nat} {ls : Lo} {st : List Va} {σ : Sg} {Q : Rs → Sg → Prop} {z : Int} {g j : Nat} : Wx d 57 106 ls (vi z :: vr g j :: st) σ Q ↔ (isA g j 2 z ∨ isA g j 3 z) ∧ On (rf g j z.toNat) (fun w => Wx d 57 107 ls (.inr (.inl w) :: st) σ Q) := u_aald d57_106
theorem d57_107 : decode (mB 57) 107 = .ok (.iload 7, 2) := by decide +kernel
theorem u57_107 {d : Nat} {ls : Lo} {st : List Va} {σ : Sg} {Q : Rs → Sg → Prop} : Wx d 57 107 ls st σ Q ↔ Li (lget ls 7) (fun z => Wx d 57 109 ls (vi z :: st) σ Q) := u_iload d57_107
theorem d57_109 : decode (mB 57) 109 = .ok (.iaload, 1) := by decide +kernel
theorem u57_109 {d : Nat} {ls : Lo} {st : List Va} {σ : Sg} {Q : Rs → Sg → Prop} {z : Int} {g j : Nat} : Wx d 57 109 ls (vi z :: vr g j :: st) σ Q ↔ On (ial σ g j z) (fun x => Wx d 57 110 ls (vi x :: st) σ Q) := u_iald d57_109
theorem d57_110 : decode (mB 57) 110 = .ok (.iadd, 1) := by decide +kernel
theorem u57_110 {d : Nat} {ls : Lo} {st : List Va} {σ : Sg} {Q : Rs → Sg → Prop} {a b : Int} : Wx d 57 110 ls (vi b :: vi a :: st) σ Q ↔ Wx d 57 111 ls (vi (a + b) :: st) σ Q := u_iadd d57_110
theorem d57_111 : decode (mB 57) 111 = .ok (.istore 8, 2) := by decide +kernel
theorem u57_111 {d : Nat} {ls : Lo} {st : List Va} {σ : Sg} {Q : Rs → Sg → Prop} {z : Int} : Wx d 57 111 ls (vi z :: st) σ Q ↔ Wx d 57 113 (lset ls 8 (vi z)) st σ Q := u_istore d57_111 (by decide)
theorem d57_113 : decode (mB 57) 113 = .ok (.iload 6, 2) := by decide +kernel
theorem u57_113 {d : Nat} {ls : Lo} {st : List Va} {σ : Sg} {Q : Rs → Sg → Prop} : Wx d 57 113 ls st σ Q ↔ Li (lget ls 6) (fun z => Wx d 57 115 ls (vi z :: st) σ Q) := u_iload d57_113
theorem d57_115 : decode (mB 57) 115 = .ok (.iconst (-1), 1) := by decide +kernel
theorem u57_115 {d : Nat} {ls : Lo} {st : List Va} {σ : Sg} {Q : Rs → Sg → Prop} : Wx d 57 115 ls st σ Q ↔ Wx d 57 116 ls (vi (-1) :: st) σ Q := u_iconst d57_115
theorem d57_116 : decode (mB 57) 116 = .ok (.if_icmp .eq 10, 3) := by decide +kernel
theorem u57_116 {d : Nat} {ls : Lo} {st : List Va} {σ : Sg} {Q : Rs → Sg → Prop} {a b : Int} (h : -2147483648 ≤ a ∧ a ≤ 2147483647) (h2 : -2147483648 ≤ b ∧ b ≤ 2147483647) : Wx d 57 116 ls (vi b :: vi a :: st) σ Q ↔ if a = b then Wx d 57 126 ls st σ Q else Wx d 57 119 ls st σ Q := u_iceq d57_116 (by decide) h h2
theorem d57_119 : decode (mB 57) 119 = .ok (.iload 8, 2) := by decide +kernel
theorem u57_119 {d : Nat} {ls : Lo} {st : List Va} {σ : Sg} {Q : Rs → Sg → Prop} : Wx d 57 119 ls st σ Q ↔ Li (lget ls 8) (fun z => Wx d 57 121 ls (vi z :: st) σ Q) := u_iload d57_119
theorem d57_121 : decode (mB 57) 121 = .ok (.iload 6, 2) := by decide +kernel
theorem u57_121 {d : Nat} {ls : Lo} {st : List Va} {σ : Sg} {Q : Rs → Sg → Prop} : Wx d 57 121 ls st σ Q ↔ Li (lget ls 6) (fun z => Wx d 57 123 ls (vi z :: st) σ Q) := u_iload d57_121
theorem d57_123 : decode (mB 57) 123 = .ok (.if_icmp .ge 28, 3) := by decide +kernel
theorem u57_123 {d : Nat} {ls : Lo} {st : List Va} {σ : Sg} {Q : Rs → Sg → Prop} {a b : Int} (h : -2147483648 ≤ a ∧ a ≤ 2147483647) (h2 : -2147483648 ≤ b ∧ b ≤ 2147483647) : Wx d 57 123 ls (vi b :: vi a :: st) σ Q ↔ if b ≤ a then Wx d 57 151 ls st σ Q else Wx d 57 126 ls st σ Q := u_icge d57_123 (by decide) h h2
theorem d57_126 : decode (mB 57) 126 = .ok (.aload_n 0, 1) := by decide +kernel
theorem u57_126 {d : Nat} {ls : Lo} {st : List Va} {σ : Sg} {Q : Rs → Sg → Prop} : Wx d 57 126 ls st σ Q ↔ Lr (lget ls 0) (fun z => Wx d 57 127 ls (.inr (.inl z) :: st) σ Q) := u_aload_n d57_126
theorem d57_127 : decode (mB 57) 127 = .ok (.getfield 12, 3) := by decide +kernel
theorem u57_127 {d : Nat} {ls : Lo} {st : List Va} {σ : Sg} {Q : Rs → Sg → Prop} {g j : Nat} : Wx d 57 127 ls (vr g j :: st) σ Q ↔ isO g j 5 ∧ Wx d 57 130 ls (fvv σ g j 0 :: st) σ Q := u_get (w := (5, 0)) d57_127 rfl
theorem d57_130 : decode (mB 57) 130 = .ok (.invokevirtual 73, 3) := by decide +kernel
theorem u57_130 {d : Nat} {ls : Lo} {st : List Va} {σ : Sg} {Q : Rs → Sg → Prop} {g j : Nat} : Wx (d + 1) 57 130 ls (vr g j :: st) σ Q ↔ (isO g j 4 ∧ st.length ≤ 4 ∧ nlg [] = true) ∧ Wm d 50 [vr g j] σ (Kc (d + 1) 57 133 ls st Q) := u_inv0 d57_130 rfl rfl rfl
theorem d57_133 : decode (mB 57) 133 = .ok (.ifCond .eq 18, 3) := by decide +kernel
theorem u57_133 {d : Nat} {ls : Lo} {st : List Va} {σ : Sg} {Q : Rs → Sg → Prop} {a : Int} (h : -2147483648 ≤ a ∧ a ≤ 2147483647) : Wx d 57 133 ls (vi a :: st) σ Q ↔ if a = 0 then Wx d 57 151 ls st σ Q else Wx d 57 136 ls st σ Q := u_ifeq d57_133 (by decide) h
theorem d57_136 : decode (mB 57) 136 = .ok (.iload 8, 2) := by decide +kernel
theorem u57_136 {d : Nat} {ls : Lo} {st : List Va} {σ : Sg} {Q : Rs → Sg → Prop} : Wx d 57 136 ls st σ Q ↔ Li (lget ls 8) (fun z => Wx d 57 138 ls (vi z :: st) σ Q) := u_iload d57_136
theorem d57_138 : decode (mB 57) 138 = .ok (.istore 6, 2) := by decide +kernel
theorem u57_138 {d : Nat} {ls : Lo} {st : List Va} {σ : Sg} {Q : Rs → Sg → Prop} {z : Int} : Wx d 57 138 ls (vi z :: st) σ Q ↔ Wx d 57 140 (lset ls 6 (vi z)) st σ Q := u_istore d57_138 (by decide)
theorem d57_140 : decode (mB 57) 140 = .ok (.aload_n 0, 1) := by decide +kernel
theorem u57_140 {d : Nat} {ls : Lo} {st : List Va} {σ : Sg} {Q : Rs → Sg → Prop} : Wx d 57 140 ls st σ Q ↔ Lr (lget ls 0) (fun z => Wx d 57 141 ls (.inr (.inl z) :: st) σ Q) := u_aload_n d57_140
theorem d57_141 : decode (mB 57) 141 = .ok (.getfield 25, 3) := by decide +kernel
theorem u57_141 {d : Nat} {ls : Lo} {st : List Va} {σ : Sg} {Q : Rs → Sg → Prop} {g j : Nat} : Wx d 57 141 ls (vr g j :: st) σ Q ↔ isO g j 5 ∧ Wx d 57 144 ls (fvv σ g j 2 :: st) σ Q := u_get (w := (5, 2)) d57_141 rfl
theorem d57_144 : decode (mB 57) 144 = .ok (.iload_n 3, 1) := by decide +kernel
theorem u57_144 {d : Nat} {ls : Lo} {st : List Va} {σ : Sg} {Q : Rs → Sg → Prop} : Wx d 57 144 ls st σ Q ↔ Li (lget ls 3) (fun z => Wx d 57 145 ls (vi z :: st) σ Q) := u_iload_n d57_144
theorem d57_145 : decode (mB 57) 145 = .ok (.aaload, 1) := by decide +kernel
theorem u57_145 {d : Nat} {ls : Lo} {st : List Va} {σ : Sg} {Q : Rs → Sg → Prop} {z : Int} {g j : Nat} : Wx d 57 145 ls (vi z :: vr g j :: st) σ Q ↔ (isA g j 2 z ∨ isA g j 3 z) ∧ On (rf g j z.toNat) (fun w => Wx d 57 146 ls (.inr (.inl w) :: st) σ Q) := u_aald d57_145
theorem d57_146 : decode (mB 57) 146 = .ok (.iload 4, 2) := by decide +kernel
theorem u57_146 {d : Nat} {ls : Lo} {st : List Va} {σ : Sg} {Q : Rs → Sg → Prop} : Wx d 57 146 ls st σ Q ↔ Li (lget ls 4) (fun z => Wx d 57 148 ls (vi z :: st) σ Q) := u_iload d57_146
theorem d57_148 : decode (mB 57) 148 = .ok (.iload 7, 2) := by decide +kernel
theorem u57_148 {d : Nat} {ls : Lo} {st : List Va} {σ : Sg} {Q : Rs → Sg → Prop} : Wx d 57 148 ls st σ Q ↔ Li (lget ls 7) (fun z => Wx d 57 150 ls (vi z :: st) σ Q) := u_iload d57_148
theorem d57_150 : decode (mB 57) 150 = .ok (.iastore, 1) := by decide +kernel
theorem u57_150 {d : Nat} {ls : Lo} {st : List Va} {σ : Sg} {Q : Rs → Sg → Prop} {x z : Int} {g j : Nat} : Wx d 57 150 ls (vi x :: vi z :: vr g j :: st) σ Q ↔ isA g j 0 z ∧ Wx d 57 151 ls st (up σ g j z.toNat x) Q := u_iast d57_150
theorem d57_151 : decode (mB 57) 151 = .ok (.iinc 7 1, 3) := by decide +kernel
theorem u57_151 {d : Nat} {ls : Lo} {st : List Va} {σ : Sg} {Q : Rs → Sg → Prop} : Wx d 57 151 ls st σ Q ↔ Li (lget ls 7) (fun z => Wx d 57 154 (lset ls 7 (vi (z + 1))) st σ Q) := u_iinc d57_151 (by decide)
theorem d57_154 : decode (mB 57) 154 = .ok (.goto (-107), 3) := by decide +kernel
theorem u57_154 {d : Nat} {ls : Lo} {st : List Va} {σ : Sg} {Q : Rs → Sg → Prop} : Wx d 57 154 ls st σ Q ↔ Wx d 57 47 ls st σ Q := u_goto d57_154 (by decide)
theorem d57_157 : decode (mB 57) 157 = .ok (.aload_n 0, 1) := by decide +kernel
theorem u57_157 {d : Nat} {ls : Lo} {st : List Va} {σ : Sg} {Q : Rs → Sg → Prop} : Wx d 57 157 ls st σ Q ↔ Lr (lget ls 0) (fun z => Wx d 57 158 ls (.inr (.inl z) :: st) σ Q) := u_aload_n d57_157
theorem d57_158 : decode (mB 57) 158 = .ok (.getfield 22, 3) := by decide +kernel
theorem u57_158 {d : Nat} {ls : Lo} {st : List Va} {σ : Sg} {Q : Rs → Sg → Prop} {g j : Nat} : Wx d 57 158 ls (vr g j :: st) σ Q ↔ isO g j 5 ∧ Wx d 57 161 ls (fvv σ g j 1 :: st) σ Q := u_get (w := (5, 1)) d57_158 rfl
theorem d57_161 : decode (mB 57) 161 = .ok (.iload_n 3, 1) := by decide +kernel
theorem u57_161 {d : Nat} {ls : Lo} {st : List Va} {σ : Sg} {Q : Rs → Sg → Prop} : Wx d 57 161 ls st σ Q ↔ Li (lget ls 3) (fun z => Wx d 57 162 ls (vi z :: st) σ Q) := u_iload_n d57_161
theorem d57_162 : decode (mB 57) 162 = .ok (.aaload, 1) := by decide +kernel
theorem u57_162 {d : Nat} {ls : Lo} {st : List Va} {σ : Sg} {Q : Rs → Sg → Prop} {z : Int} {g j : Nat} : Wx d 57 162 ls (vi z :: vr g j :: st) σ Q ↔ (isA g j 2 z ∨ isA g j 3 z) ∧ On (rf g j z.toNat) (fun w => Wx d 57 163 ls (.inr (.inl w) :: st) σ Q) := u_aald d57_162
theorem d57_163 : decode (mB 57) 163 = .ok (.iload 4, 2) := by decide +kernel
theorem u57_163 {d : Nat} {ls : Lo} {st : List Va} {σ : Sg} {Q : Rs → Sg → Prop} : Wx d 57 163 ls st σ Q ↔ Li (lget ls 4) (fun z => Wx d 57 165 ls (vi z :: st) σ Q) := u_iload d57_163
theorem d57_165 : decode (mB 57) 165 = .ok (.iload 6, 2) := by decide +kernel
theorem u57_165 {d : Nat} {ls : Lo} {st : List Va} {σ : Sg} {Q : Rs → Sg → Prop} : Wx d 57 165 ls st σ Q ↔ Li (lget ls 6) (fun z => Wx d 57 167 ls (vi z :: st) σ Q) := u_iload d57_165
theorem d57_167 : decode (mB 57) 167 = .ok (.iastore, 1) := by decide +kernel
theorem u57_167 {d : Nat} {ls : Lo} {st : List Va} {σ : Sg} {Q : Rs → Sg → Prop} {x z : Int} {g j : Nat} : Wx d 57 167 ls (vi x :: vi z :: vr g j :: st) σ Q ↔ isA g j 0 z ∧ Wx d 57 168 ls st (up σ g j z.toNat x) Q := u_iast d57_167
theorem d57_168 : decode (mB 57) 168 = .ok (.return_, 1) := by decide +kernel
theorem u57_168 {d : Nat} {ls : Lo} {σ : Sg} {Q : Rs → Sg → Prop} : Wx d 57 168 ls [] σ Q ↔ Q (.inl none) σ := u_vret d57_168 rfl
/-! 58: FiguredBass$Realisation.cheapest(I)I -/
theorem d58_0 : decode (mB 58) 0 = .ok (.iconst (-1), 1) := by decide +kernel
theorem u58_0 {d : Nat} {ls : Lo} {st : List Va} {σ : Sg} {Q : Rs → Sg → Prop} : Wx d 58 0 ls st σ Q ↔ Wx d 58 1 ls (vi (-1) :: st) σ Q := u_iconst d58_0
theorem d58_1 : decode (mB 58) 1 = .ok (.istore_n 2, 1) := by decide +kernel
theorem u58_1 {d : Nat} {ls : Lo} {st : List Va} {σ : Sg} {Q : Rs → Sg → Prop} {z : Int} : Wx d 58 1 ls (vi z :: st) σ Q ↔ Wx d 58 2 (lset ls 2 (vi z)) st σ Q := u_istore_n d58_1 (by decide)
theorem d58_2 : decode (mB 58) 2 = .ok (.iconst 0, 1) := by decide +kernel
theorem u58_2 {d : Nat} {ls : Lo} {st : List Va} {σ : Sg} {Q : Rs → Sg → Prop} : Wx d 58 2 ls st σ Q ↔ Wx d 58 3 ls (vi 0 :: st) σ Q := u_iconst d58_2
theorem d58_3 : decode (mB 58) 3 = .ok (.istore_n 3, 1) := by decide +kernel
theorem u58_3 {d : Nat} {ls : Lo} {st : List Va} {σ : Sg} {Q : Rs → Sg → Prop} {z : Int} : Wx d 58 3 ls (vi z :: st) σ Q ↔ Wx d 58 4 (lset ls 3 (vi z)) st σ Q := u_istore_n d58_3 (by decide)
theorem d58_4 : decode (mB 58) 4 = .ok (.iload_n 3, 1) := by decide +kernel
theorem u58_4 {d : Nat} {ls : Lo} {st : List Va} {σ : Sg} {Q : Rs → Sg → Prop} : Wx d 58 4 ls st σ Q ↔ Li (lget ls 3) (fun z => Wx d 58 5 ls (vi z :: st) σ Q) := u_iload_n d58_4
theorem d58_5 : decode (mB 58) 5 = .ok (.iload_n 1, 1) := by decide +kernel
theorem u58_5 {d : Nat} {ls : Lo} {st : List Va} {σ : Sg} {Q : Rs → Sg → Prop} : Wx d 58 5 ls st σ Q ↔ Li (lget ls 1) (fun z => Wx d 58 6 ls (vi z :: st) σ Q) := u_iload_n d58_5
theorem d58_6 : decode (mB 58) 6 = .ok (.if_icmp .ge 45, 3) := by decide +kernel
theorem u58_6 {d : Nat} {ls : Lo} {st : List Va} {σ : Sg} {Q : Rs → Sg → Prop} {a b : Int} (h : -2147483648 ≤ a ∧ a ≤ 2147483647) (h2 : -2147483648 ≤ b ∧ b ≤ 2147483647) : Wx d 58 6 ls (vi b :: vi a :: st) σ Q ↔ if b ≤ a then Wx d 58 51 ls st σ Q else Wx d 58 9 ls st σ Q := u_icge d58_6 (by decide) h h2
theorem d58_9 : decode (mB 58) 9 = .ok (.aload_n 0, 1) := by decide +kernel
theorem u58_9 {d : Nat} {ls : Lo} {st : List Va} {σ : Sg} {Q : Rs → Sg → Prop} : Wx d 58 9 ls st σ Q ↔ Lr (lget ls 0) (fun z => Wx d 58 10 ls (.inr (.inl z) :: st) σ Q) := u_aload_n d58_9
theorem d58_10 : decode (mB 58) 10 = .ok (.getfield 22, 3) := by decide +kernel
theorem u58_10 {d : Nat} {ls : Lo} {st : List Va} {σ : Sg} {Q : Rs → Sg → Prop} {g j : Nat} : Wx d 58 10 ls (vr g j :: st) σ Q ↔ isO g j 5 ∧ Wx d 58 13 ls (fvv σ g j 1 :: st) σ Q := u_get (w := (5, 1)) d58_10 rfl
theorem d58_13 : decode (mB 58) 13 = .ok (.iconst 0, 1) := by decide +kernel
theorem u58_13 {d : Nat} {ls : Lo} {st : List Va} {σ : Sg} {Q : Rs → Sg → Prop} : Wx d 58 13 ls st σ Q ↔ Wx d 58 14 ls (vi 0 :: st) σ Q := u_iconst d58_13
theorem d58_14 : decode (mB 58) 14 = .ok (.aaload, 1) := by decide +kernel
theorem u58_14 {d : Nat} {ls : Lo} {st : List Va} {σ : Sg} {Q : Rs → Sg → Prop} {z : Int} {g j : Nat} : Wx d 58 14 ls (vi z :: vr g j :: st) σ Q ↔ (isA g j 2 z ∨ isA g j 3 z) ∧ On (rf g j z.toNat) (fun w => Wx d 58 15 ls (.inr (.inl w) :: st) σ Q) := u_aald d58_14
theorem d58_15 : decode (mB 58) 15 = .ok (.iload_n 3, 1) := by decide +kernel
theorem u58_15 {d : Nat} {ls : Lo} {st : List Va} {σ : Sg} {Q : Rs → Sg → Prop} : Wx d 58 15 ls st σ Q ↔ Li (lget ls 3) (fun z => Wx d 58 16 ls (vi z :: st) σ Q) := u_iload_n d58_15
theorem d58_16 : decode (mB 58) 16 = .ok (.iaload, 1) := by decide +kernel
theorem u58_16 {d : Nat} {ls : Lo} {st : List Va} {σ : Sg} {Q : Rs → Sg → Prop} {z : Int} {g j : Nat} : Wx d 58 16 ls (vi z :: vr g j :: st) σ Q ↔ On (ial σ g j z) (fun x => Wx d 58 17 ls (vi x :: st) σ Q) := u_iald d58_16
theorem d58_17 : decode (mB 58) 17 = .ok (.istore 4, 2) := by decide +kernel
theorem u58_17 {d : Nat} {ls : Lo} {st : List Va} {σ : Sg} {Q : Rs → Sg → Prop} {z : Int} : Wx d 58 17 ls (vi z :: st) σ Q ↔ Wx d 58 19 (lset ls 4 (vi z)) st σ Q := u_istore d58_17 (by decide)
theorem d58_19 : decode (mB 58) 19 = .ok (.iload 4, 2) := by decide +kernel
theorem u58_19 {d : Nat} {ls : Lo} {st : List Va} {σ : Sg} {Q : Rs → Sg → Prop} : Wx d 58 19 ls st σ Q ↔ Li (lget ls 4) (fun z => Wx d 58 21 ls (vi z :: st) σ Q) := u_iload d58_19
theorem d58_21 : decode (mB 58) 21 = .ok (.iconst (-1), 1) := by decide +kernel
theorem u58_21 {d : Nat} {ls : Lo} {st : List Va} {σ : Sg} {Q : Rs → Sg → Prop} : Wx d 58 21 ls st σ Q ↔ Wx d 58 22 ls (vi (-1) :: st) σ Q := u_iconst d58_21
theorem d58_22 : decode (mB 58) 22 = .ok (.if_icmp .eq 23, 3) := by decide +kernel
theorem u58_22 {d : Nat} {ls : Lo} {st : List Va} {σ : Sg} {Q : Rs → Sg → Prop} {a b : Int} (h : -2147483648 ≤ a ∧ a ≤ 2147483647) (h2 : -2147483648 ≤ b ∧ b ≤ 2147483647) : Wx d 58 22 ls (vi b :: vi a :: st) σ Q ↔ if a = b then Wx d 58 45 ls st σ Q else Wx d 58 25 ls st σ Q := u_iceq d58_22 (by decide) h h2
theorem d58_25 : decode (mB 58) 25 = .ok (.iload_n 2, 1) := by decide +kernel
theorem u58_25 {d : Nat} {ls : Lo} {st : List Va} {σ : Sg} {Q : Rs → Sg → Prop} : Wx d 58 25 ls st σ Q ↔ Li (lget ls 2) (fun z => Wx d 58 26 ls (vi z :: st) σ Q) := u_iload_n d58_25
theorem d58_26 : decode (mB 58) 26 = .ok (.iconst (-1), 1) := by decide +kernel
theorem u58_26 {d : Nat} {ls : Lo} {st : List Va} {σ : Sg} {Q : Rs → Sg → Prop} : Wx d 58 26 ls st σ Q ↔ Wx d 58 27 ls (vi (-1) :: st) σ Q := u_iconst d58_26
theorem d58_27 : decode (mB 58) 27 = .ok (.if_icmp .eq 16, 3) := by decide +kernel
theorem u58_27 {d : Nat} {ls : Lo} {st : List Va} {σ : Sg} {Q : Rs → Sg → Prop} {a b : Int} (h : -2147483648 ≤ a ∧ a ≤ 2147483647) (h2 : -2147483648 ≤ b ∧ b ≤ 2147483647) : Wx d 58 27 ls (vi b :: vi a :: st) σ Q ↔ if a = b then Wx d 58 43 ls st σ Q else Wx d 58 30 ls st σ Q := u_iceq d58_27 (by decide) h h2
theorem d58_30 : decode (mB 58) 30 = .ok (.iload 4, 2) := by decide +kernel
theorem u58_30 {d : Nat} {ls : Lo} {st : List Va} {σ : Sg} {Q : Rs → Sg → Prop} : Wx d 58 30 ls st σ Q ↔ Li (lget ls 4) (fun z => Wx d 58 32 ls (vi z :: st) σ Q) := u_iload d58_30
theorem d58_32 : decode (mB 58) 32 = .ok (.aload_n 0, 1) := by decide +kernel
theorem u58_32 {d : Nat} {ls : Lo} {st : List Va} {σ : Sg} {Q : Rs → Sg → Prop} : Wx d 58 32 ls st σ Q ↔ Lr (lget ls 0) (fun z => Wx d 58 33 ls (.inr (.inl z) :: st) σ Q) := u_aload_n d58_32
theorem d58_33 : decode (mB 58) 33 = .ok (.getfield 22, 3) := by decide +kernel
theorem u58_33 {d : Nat} {ls : Lo} {st : List Va} {σ : Sg} {Q : Rs → Sg → Prop} {g j : Nat} : Wx d 58 33 ls (vr g j :: st) σ Q ↔ isO g j 5 ∧ Wx d 58 36 ls (fvv σ g j 1 :: st) σ Q := u_get (w := (5, 1)) d58_33 rfl
theorem d58_36 : decode (mB 58) 36 = .ok (.iconst 0, 1) := by decide +kernel
theorem u58_36 {d : Nat} {ls : Lo} {st : List Va} {σ : Sg} {Q : Rs → Sg → Prop} : Wx d 58 36 ls st σ Q ↔ Wx d 58 37 ls (vi 0 :: st) σ Q := u_iconst d58_36
theorem d58_37 : decode (mB 58) 37 = .ok (.aaload, 1) := by decide +kernel
theorem u58_37 {d : Nat} {ls : Lo} {st : List Va} {σ : Sg} {Q : Rs → Sg → Prop} {z : Int} {g j : Nat} : Wx d 58 37 ls (vi z :: vr g j :: st) σ Q ↔ (isA g j 2 z ∨ isA g j 3 z) ∧ On (rf g j z.toNat) (fun w => Wx d 58 38 ls (.inr (.inl w) :: st) σ Q) := u_aald d58_37
theorem d58_38 : decode (mB 58) 38 = .ok (.iload_n 2, 1) := by decide +kernel
theorem u58_38 {d : Nat} {ls : Lo} {st : List Va} {σ : Sg} {Q : Rs → Sg → Prop} : Wx d 58 38 ls st σ Q ↔ Li (lget ls 2) (fun z => Wx d 58 39 ls (vi z :: st) σ Q) := u_iload_n d58_38
theorem d58_39 : decode (mB 58) 39 = .ok (.iaload, 1) := by decide +kernel
theorem u58_39 {d : Nat} {ls : Lo} {st : List Va} {σ : Sg} {Q : Rs → Sg → Prop} {z : Int} {g j : Nat} : Wx d 58 39 ls (vi z :: vr g j :: st) σ Q ↔ On (ial σ g j z) (fun x => Wx d 58 40 ls (vi x :: st) σ Q) := u_iald d58_39
theorem d58_40 : decode (mB 58) 40 = .ok (.if_icmp .ge 5, 3) := by decide +kernel
theorem u58_40 {d : Nat} {ls : Lo} {st : List Va} {σ : Sg} {Q : Rs → Sg → Prop} {a b : Int} (h : -2147483648 ≤ a ∧ a ≤ 2147483647) (h2 : -2147483648 ≤ b ∧ b ≤ 2147483647) : Wx d 58 40 ls (vi b :: vi a :: st) σ Q ↔ if b ≤ a then Wx d 58 45 ls st σ Q else Wx d 58 43 ls st σ Q := u_icge d58_40 (by decide) h h2
theorem d58_43 : decode (mB 58) 43 = .ok (.iload_n 3, 1) := by decide +kernel
theorem u58_43 {d : Nat} {ls : Lo} {st : List Va} {σ : Sg} {Q : Rs → Sg → Prop} : Wx d 58 43 ls st σ Q ↔ Li (lget ls 3) (fun z => Wx d 58 44 ls (vi z :: st) σ Q) := u_iload_n d58_43
theorem d58_44 : decode (mB 58) 44 = .ok (.istore_n 2, 1) := by decide +kernel
theorem u58_44 {d : Nat} {ls : Lo} {st : List Va} {σ : Sg} {Q : Rs → Sg → Prop} {z : Int} : Wx d 58 44 ls (vi z :: st) σ Q ↔ Wx d 58 45 (lset ls 2 (vi z)) st σ Q := u_istore_n d58_44 (by decide)
theorem d58_45 : decode (mB 58) 45 = .ok (.iinc 3 1, 3) := by decide +kernel
theorem u58_45 {d : Nat} {ls : Lo} {st : List Va} {σ : Sg} {Q : Rs → Sg → Prop} : Wx d 58 45 ls st σ Q ↔ Li (lget ls 3) (fun z => Wx d 58 48 (lset ls 3 (vi (z + 1))) st σ Q) := u_iinc d58_45 (by decide)
theorem d58_48 : decode (mB 58) 48 = .ok (.goto (-44), 3) := by decide +kernel
theorem u58_48 {d : Nat} {ls : Lo} {st : List Va} {σ : Sg} {Q : Rs → Sg → Prop} : Wx d 58 48 ls st σ Q ↔ Wx d 58 4 ls st σ Q := u_goto d58_48 (by decide)
theorem d58_51 : decode (mB 58) 51 = .ok (.iload_n 2, 1) := by decide +kernel
theorem u58_51 {d : Nat} {ls : Lo} {st : List Va} {σ : Sg} {Q : Rs → Sg → Prop} : Wx d 58 51 ls st σ Q ↔ Li (lget ls 2) (fun z => Wx d 58 52 ls (vi z :: st) σ Q) := u_iload_n d58_51
theorem d58_52 : decode (mB 58) 52 = .ok (.ireturn, 1) := by decide +kernel
theorem u58_52 {d : Nat} {ls : Lo} {σ : Sg} {Q : Rs → Sg → Prop} {z : Int} : Wx d 58 52 ls [vi z] σ Q ↔ Q (.inl (some (vi z))) σ := u_iret d58_52 rfl
/-! 59: FiguredBass$Realisation.choose(II)V -/
theorem d59_0 : decode (mB 59) 0 = .ok (.aload_n 0, 1) := by decide +kernel
theorem u59_0 {d : Nat} {ls : Lo} {st : List Va} {σ : Sg} {Q : Rs → Sg → Prop} : Wx d 59 0 ls st σ Q ↔ Lr (lget ls 0) (fun z => Wx d 59 1 ls (.inr (.inl z) :: st) σ Q) := u_aload_n d59_0
theorem d59_1 : decode (mB 59) 1 = .ok (.getfield 35, 3) := by decide +kernel
theorem u59_1 {d : Nat} {ls : Lo} {st : List Va} {σ : Sg} {Q : Rs → Sg → Prop} {g j : Nat} : Wx d 59 1 ls (vr g j :: st) σ Q ↔ isO g j 5 ∧ Wx d 59 4 ls (fvv σ g j 5 :: st) σ Q := u_get (w := (5, 5)) d59_1 rfl
theorem d59_4 : decode (mB 59) 4 = .ok (.iconst 0, 1) := by decide +kernel
theorem u59_4 {d : Nat} {ls : Lo} {st : List Va} {σ : Sg} {Q : Rs → Sg → Prop} : Wx d 59 4 ls st σ Q ↔ Wx d 59 5 ls (vi 0 :: st) σ Q := u_iconst d59_4
theorem d59_5 : decode (mB 59) 5 = .ok (.iload_n 1, 1) := by decide +kernel
theorem u59_5 {d : Nat} {ls : Lo} {st : List Va} {σ : Sg} {Q : Rs → Sg → Prop} : Wx d 59 5 ls st σ Q ↔ Li (lget ls 1) (fun z => Wx d 59 6 ls (vi z :: st) σ Q) := u_iload_n d59_5
theorem d59_6 : decode (mB 59) 6 = .ok (.iastore, 1) := by decide +kernel
theorem u59_6 {d : Nat} {ls : Lo} {st : List Va} {σ : Sg} {Q : Rs → Sg → Prop} {x z : Int} {g j : Nat} : Wx d 59 6 ls (vi x :: vi z :: vr g j :: st) σ Q ↔ isA g j 0 z ∧ Wx d 59 7 ls st (up σ g j z.toNat x) Q := u_iast d59_6
theorem d59_7 : decode (mB 59) 7 = .ok (.iconst 1, 1) := by decide +kernel
theorem u59_7 {d : Nat} {ls : Lo} {st : List Va} {σ : Sg} {Q : Rs → Sg → Prop} : Wx d 59 7 ls st σ Q ↔ Wx d 59 8 ls (vi 1 :: st) σ Q := u_iconst d59_7
theorem d59_8 : decode (mB 59) 8 = .ok (.istore_n 3, 1) := by decide +kernel
theorem u59_8 {d : Nat} {ls : Lo} {st : List Va} {σ : Sg} {Q : Rs → Sg → Prop} {z : Int} : Wx d 59 8 ls (vi z :: st) σ Q ↔ Wx d 59 9 (lset ls 3 (vi z)) st σ Q := u_istore_n d59_8 (by decide)
theorem d59_9 : decode (mB 59) 9 = .ok (.iload_n 3, 1) := by decide +kernel
theorem u59_9 {d : Nat} {ls : Lo} {st : List Va} {σ : Sg} {Q : Rs → Sg → Prop} : Wx d 59 9 ls st σ Q ↔ Li (lget ls 3) (fun z => Wx d 59 10 ls (vi z :: st) σ Q) := u_iload_n d59_9
theorem d59_10 : decode (mB 59) 10 = .ok (.iload_n 2, 1) := by decide +kernel
theorem u59_10 {d : Nat} {ls : Lo} {st : List Va} {σ : Sg} {Q : Rs → Sg → Prop} : Wx d 59 10 ls st σ Q ↔ Li (lget ls 2) (fun z => Wx d 59 11 ls (vi z :: st) σ Q) := u_iload_n d59_10
theorem d59_11 : decode (mB 59) 11 = .ok (.if_icmp .ge 32, 3) := by decide +kernel
theorem u59_11 {d : Nat} {ls : Lo} {st : List Va} {σ : Sg} {Q : Rs → Sg → Prop} {a b : Int} (h : -2147483648 ≤ a ∧ a ≤ 2147483647) (h2 : -2147483648 ≤ b ∧ b ≤ 2147483647) : Wx d 59 11 ls (vi b :: vi a :: st) σ Q ↔ if b ≤ a then Wx d 59 43 ls st σ Q else Wx d 59 14 ls st σ Q := u_icge d59_11 (by decide) h h2
theorem d59_14 : decode (mB 59) 14 = .ok (.aload_n 0, 1) := by decide +kernel
theorem u59_14 {d : Nat} {ls : Lo} {st : List Va} {σ : Sg} {Q : Rs → Sg → Prop} : Wx d 59 14 ls st σ Q ↔ Lr (lget ls 0) (fun z => Wx d 59 15 ls (.inr (.inl z) :: st) σ Q) := u_aload_n d59_14
theorem d59_15 : decode (mB 59) 15 = .ok (.getfield 35, 3) := by decide +kernel
theorem u59_15 {d : Nat} {ls : Lo} {st : List Va} {σ : Sg} {Q : Rs → Sg → Prop} {g j : Nat} : Wx d 59 15 ls (vr g j :: st) σ Q ↔ isO g j 5 ∧ Wx d 59 18 ls (fvv σ g j 5 :: st) σ Q := u_get (w := (5, 5)) d59_15 rfl
theorem d59_18 : decode (mB 59) 18 = .ok (.iload_n 3, 1) := by decide +kernel
theorem u59_18 {d : Nat} {ls : Lo} {st : List Va} {σ : Sg} {Q : Rs → Sg → Prop} : Wx d 59 18 ls st σ Q ↔ Li (lget ls 3) (fun z => Wx d 59 19 ls (vi z :: st) σ Q) := u_iload_n d59_18
theorem d59_19 : decode (mB 59) 19 = .ok (.aload_n 0, 1) := by decide +kernel
theorem u59_19 {d : Nat} {ls : Lo} {st : List Va} {σ : Sg} {Q : Rs → Sg → Prop} : Wx d 59 19 ls st σ Q ↔ Lr (lget ls 0) (fun z => Wx d 59 20 ls (.inr (.inl z) :: st) σ Q) := u_aload_n d59_19
theorem d59_20 : decode (mB 59) 20 = .ok (.getfield 25, 3) := by decide +kernel
theorem u59_20 {d : Nat} {ls : Lo} {st : List Va} {σ : Sg} {Q : Rs → Sg → Prop} {g j : Nat} : Wx d 59 20 ls (vr g j :: st) σ Q ↔ isO g j 5 ∧ Wx d 59 23 ls (fvv σ g j 2 :: st) σ Q := u_get (w := (5, 2)) d59_20 rfl
theorem d59_23 : decode (mB 59) 23 = .ok (.iload_n 3, 1) := by decide +kernel
theorem u59_23 {d : Nat} {ls : Lo} {st : List Va} {σ : Sg} {Q : Rs → Sg → Prop} : Wx d 59 23 ls st σ Q ↔ Li (lget ls 3) (fun z => Wx d 59 24 ls (vi z :: st) σ Q) := u_iload_n d59_23
theorem d59_24 : decode (mB 59) 24 = .ok (.iconst 1, 1) := by decide +kernel
theorem u59_24 {d : Nat} {ls : Lo} {st : List Va} {σ : Sg} {Q : Rs → Sg → Prop} : Wx d 59 24 ls st σ Q ↔ Wx d 59 25 ls (vi 1 :: st) σ Q := u_iconst d59_24
theorem d59_25 : decode (mB 59) 25 = .ok (.isub, 1) := by decide +kernel
theorem u59_25 {d : Nat} {ls : Lo} {st : List Va} {σ : Sg} {Q : Rs → Sg → Prop} {a b : Int} : Wx d 59 25 ls (vi b :: vi a :: st) σ Q ↔ Wx d 59 26 ls (vi (a - b) :: st) σ Q := u_isub d59_25
theorem d59_26 : decode (mB 59) 26 = .ok (.aaload, 1) := by decide +kernel
theorem u59_26 {d : Nat} {ls : Lo} {st : List Va} {σ : Sg} {Q : Rs → Sg → Prop} {z : Int} {g j : Nat} : Wx d 59 26 ls (vi z :: vr g j :: st) σ Q ↔ (isA g j 2 z ∨ isA g j 3 z) ∧ On (rf g j z.toNat) (fun w => Wx d 59 27 ls (.inr (.inl w) :: st) σ Q) := u_aald d59_26
theorem d59_27 : decode (mB 59) 27 = .ok (.aload_n 0, 1) := by decide +kernel
theorem u59_27 {d : Nat} {ls : Lo} {st : List Va} {σ : Sg} {Q : Rs → Sg → Prop} : Wx d 59 27 ls st σ Q ↔ Lr (lget ls 0) (fun z => Wx d 59 28 ls (.inr (.inl z) :: st) σ Q) := u_aload_n d59_27
theorem d59_28 : decode (mB 59) 28 = .ok (.getfield 35, 3) := by decide +kernel
theorem u59_28 {d : Nat} {ls : Lo} {st : List Va} {σ : Sg} {Q : Rs → Sg → Prop} {g j : Nat} : Wx d 59 28 ls (vr g j :: st) σ Q ↔ isO g j 5 ∧ Wx d 59 31 ls (fvv σ g j 5 :: st) σ Q := u_get (w := (5, 5)) d59_28 rfl
theorem d59_31 : decode (mB 59) 31 = .ok (.iload_n 3, 1) := by decide +kernel
theorem u59_31 {d : Nat} {ls : Lo} {st : List Va} {σ : Sg} {Q : Rs → Sg → Prop} : Wx d 59 31 ls st σ Q ↔ Li (lget ls 3) (fun z => Wx d 59 32 ls (vi z :: st) σ Q) := u_iload_n d59_31
theorem d59_32 : decode (mB 59) 32 = .ok (.iconst 1, 1) := by decide +kernel
theorem u59_32 {d : Nat} {ls : Lo} {st : List Va} {σ : Sg} {Q : Rs → Sg → Prop} : Wx d 59 32 ls st σ Q ↔ Wx d 59 33 ls (vi 1 :: st) σ Q := u_iconst d59_32
theorem d59_33 : decode (mB 59) 33 = .ok (.isub, 1) := by decide +kernel
theorem u59_33 {d : Nat} {ls : Lo} {st : List Va} {σ : Sg} {Q : Rs → Sg → Prop} {a b : Int} : Wx d 59 33 ls (vi b :: vi a :: st) σ Q ↔ Wx d 59 34 ls (vi (a - b) :: st) σ Q := u_isub d59_33
theorem d59_34 : decode (mB 59) 34 = .ok (.iaload, 1) := by decide +kernel
theorem u59_34 {d : Nat} {ls : Lo} {st : List Va} {σ : Sg} {Q : Rs → Sg → Prop} {z : Int} {g j : Nat} : Wx d 59 34 ls (vi z :: vr g j :: st) σ Q ↔ On (ial σ g j z) (fun x => Wx d 59 35 ls (vi x :: st) σ Q) := u_iald d59_34
theorem d59_35 : decode (mB 59) 35 = .ok (.iaload, 1) := by decide +kernel
theorem u59_35 {d : Nat} {ls : Lo} {st : List Va} {σ : Sg} {Q : Rs → Sg → Prop} {z : Int} {g j : Nat} : Wx d 59 35 ls (vi z :: vr g j :: st) σ Q ↔ On (ial σ g j z) (fun x => Wx d 59 36 ls (vi x :: st) σ Q) := u_iald d59_35
theorem d59_36 : decode (mB 59) 36 = .ok (.iastore, 1) := by decide +kernel
theorem u59_36 {d : Nat} {ls : Lo} {st : List Va} {σ : Sg} {Q : Rs → Sg → Prop} {x z : Int} {g j : Nat} : Wx d 59 36 ls (vi x :: vi z :: vr g j :: st) σ Q ↔ isA g j 0 z ∧ Wx d 59 37 ls st (up σ g j z.toNat x) Q := u_iast d59_36
theorem d59_37 : decode (mB 59) 37 = .ok (.iinc 3 1, 3) := by decide +kernel
theorem u59_37 {d : Nat} {ls : Lo} {st : List Va} {σ : Sg} {Q : Rs → Sg → Prop} : Wx d 59 37 ls st σ Q ↔ Li (lget ls 3) (fun z => Wx d 59 40 (lset ls 3 (vi (z + 1))) st σ Q) := u_iinc d59_37 (by decide)
theorem d59_40 : decode (mB 59) 40 = .ok (.goto (-31), 3) := by decide +kernel
theorem u59_40 {d : Nat} {ls : Lo} {st : List Va} {σ : Sg} {Q : Rs → Sg → Prop} : Wx d 59 40 ls st σ Q ↔ Wx d 59 9 ls st σ Q := u_goto d59_40 (by decide)
theorem d59_43 : decode (mB 59) 43 = .ok (.return_, 1) := by decide +kernel
theorem u59_43 {d : Nat} {ls : Lo} {σ : Sg} {Q : Rs → Sg → Prop} : Wx d 59 43 ls [] σ Q ↔ Q (.inl none) σ := u_vret d59_43 rfl
/-! 60: FiguredBass$Realisation.firstUnreached([LFiguredBass$Chord;I)I -/
theorem d60_0 : decode (mB 60) 0 = .ok (.iconst 0, 1) := by decide +kernel
theorem u60_0 {d : Nat} {ls : Lo} {st : List Va} {σ : Sg} {Q : Rs → Sg → Prop} : Wx d 60 0 ls st σ Q ↔ Wx d 60 1 ls (vi 0 :: st) σ Q := u_iconst d60_0
theorem d60_1 : decode (mB 60) 1 = .ok (.istore_n 3, 1) := by decide +kernel
theorem u60_1 {d : Nat} {ls : Lo} {st : List Va} {σ : Sg} {Q : Rs → Sg → Prop} {z : Int} : Wx d 60 1 ls (vi z :: st) σ Q ↔ Wx d 60 2 (lset ls 3 (vi z)) st σ Q := u_istore_n d60_1 (by decide)
theorem d60_2 : decode (mB 60) 2 = .ok (.iload_n 3, 1) := by decide +kernel
theorem u60_2 {d : Nat} {ls : Lo} {st : List Va} {σ : Sg} {Q : Rs → Sg → Prop} : Wx d 60 2 ls st σ Q ↔ Li (lget ls 3) (fun z => Wx d 60 3 ls (vi z :: st) σ Q) := u_iload_n d60_2
theorem d60_3 : decode (mB 60) 3 = .ok (.bipush 64, 2) := by decide +kernel
theorem u60_3 {d : Nat} {ls : Lo} {st : List Va} {σ : Sg} {Q : Rs → Sg → Prop} : Wx d 60 3 ls st σ Q ↔ Wx d 60 5 ls (vi 64 :: st) σ Q := u_bipush d60_3 (by decide)
theorem d60_5 : decode (mB 60) 5 = .ok (.if_icmp .ge 30, 3) := by decide +kernel
theorem u60_5 {d : Nat} {ls : Lo} {st : List Va} {σ : Sg} {Q : Rs → Sg → Prop} {a b : Int} (h : -2147483648 ≤ a ∧ a ≤ 2147483647) (h2 : -2147483648 ≤ b ∧ b ≤ 2147483647) : Wx d 60 5 ls (vi b :: vi a :: st) σ Q ↔ if b ≤ a then Wx d 60 35 ls st σ Q else Wx d 60 8 ls st σ Q := u_icge d60_5 (by decide) h h2
theorem d60_8 : decode (mB 60) 8 = .ok (.aload_n 0, 1) := by decide +kernel
theorem u60_8 {d : Nat} {ls : Lo} {st : List Va} {σ : Sg} {Q : Rs → Sg → Prop} : Wx d 60 8 ls st σ Q ↔ Lr (lget ls 0) (fun z => Wx d 60 9 ls (.inr (.inl z) :: st) σ Q) := u_aload_n d60_8
theorem d60_9 : decode (mB 60) 9 = .ok (.getfield 28, 3) := by decide +kernel
theorem u60_9 {d : Nat} {ls : Lo} {st : List Va} {σ : Sg} {Q : Rs → Sg → Prop} {g j : Nat} : Wx d 60 9 ls (vr g j :: st) σ Q ↔ isO g j 5 ∧ Wx d 60 12 ls (fvv σ g j 3 :: st) σ Q := u_get (w := (5, 3)) d60_9 rfl
theorem d60_12 : decode (mB 60) 12 = .ok (.iload_n 3, 1) := by decide +kernel
theorem u60_12 {d : Nat} {ls : Lo} {st : List Va} {σ : Sg} {Q : Rs → Sg → Prop} : Wx d 60 12 ls st σ Q ↔ Li (lget ls 3) (fun z => Wx d 60 13 ls (vi z :: st) σ Q) := u_iload_n d60_12
theorem d60_13 : decode (mB 60) 13 = .ok (.iload_n 3, 1) := by decide +kernel
theorem u60_13 {d : Nat} {ls : Lo} {st : List Va} {σ : Sg} {Q : Rs → Sg → Prop} : Wx d 60 13 ls st σ Q ↔ Li (lget ls 3) (fun z => Wx d 60 14 ls (vi z :: st) σ Q) := u_iload_n d60_13
theorem d60_14 : decode (mB 60) 14 = .ok (.aload_n 1, 1) := by decide +kernel
theorem u60_14 {d : Nat} {ls : Lo} {st : List Va} {σ : Sg} {Q : Rs → Sg → Prop} : Wx d 60 14 ls st σ Q ↔ Lr (lget ls 1) (fun z => Wx d 60 15 ls (.inr (.inl z) :: st) σ Q) := u_aload_n d60_14
theorem d60_15 : decode (mB 60) 15 = .ok (.iconst 0, 1) := by decide +kernel
theorem u60_15 {d : Nat} {ls : Lo} {st : List Va} {σ : Sg} {Q : Rs → Sg → Prop} : Wx d 60 15 ls st σ Q ↔ Wx d 60 16 ls (vi 0 :: st) σ Q := u_iconst d60_15
theorem d60_16 : decode (mB 60) 16 = .ok (.aaload, 1) := by decide +kernel
theorem u60_16 {d : Nat} {ls : Lo} {st : List Va} {σ : Sg} {Q : Rs → Sg → Prop} {z : Int} {g j : Nat} : Wx d 60 16 ls (vi z :: vr g j :: st) σ Q ↔ (isA g j 2 z ∨ isA g j 3 z) ∧ On (rf g j z.toNat) (fun w => Wx d 60 17 ls (.inr (.inl w) :: st) σ Q) := u_aald d60_16
theorem d60_17 : decode (mB 60) 17 = .ok (.getfield 43, 3) := by decide +kernel
theorem u60_17 {d : Nat} {ls : Lo} {st : List Va} {σ : Sg} {Q : Rs → Sg → Prop} {g j : Nat} : Wx d 60 17 ls (vr g j :: st) σ Q ↔ isO g j 3 ∧ Wx d 60 20 ls (fvv σ g j 16 :: st) σ Q := u_get (w := (3, 16)) d60_17 rfl
theorem d60_20 : decode (mB 60) 20 = .ok (.if_icmp .ge 7, 3) := by decide +kernel
theorem u60_20 {d : Nat} {ls : Lo} {st : List Va} {σ : Sg} {Q : Rs → Sg → Prop} {a b : Int} (h : -2147483648 ≤ a ∧ a ≤ 2147483647) (h2 : -2147483648 ≤ b ∧ b ≤ 2147483647) : Wx d 60 20 ls (vi b :: vi a :: st) σ Q ↔ if b ≤ a then Wx d 60 27 ls st σ Q else Wx d 60 23 ls st σ Q := u_icge d60_20 (by decide) h h2
theorem d60_23 : decode (mB 60) 23 = .ok (.iconst 1, 1) := by decide +kernel
theorem u60_23 {d : Nat} {ls : Lo} {st : List Va} {σ : Sg} {Q : Rs → Sg → Prop} : Wx d 60 23 ls st σ Q ↔ Wx d 60 24 ls (vi 1 :: st) σ Q := u_iconst d60_23
theorem d60_24 : decode (mB 60) 24 = .ok (.goto 4, 3) := by decide +kernel
theorem u60_24 {d : Nat} {ls : Lo} {st : List Va} {σ : Sg} {Q : Rs → Sg → Prop} : Wx d 60 24 ls st σ Q ↔ Wx d 60 28 ls st σ Q := u_goto d60_24 (by decide)
theorem d60_27 : decode (mB 60) 27 = .ok (.iconst 0, 1) := by decide +kernel
theorem u60_27 {d : Nat} {ls : Lo} {st : List Va} {σ : Sg} {Q : Rs → Sg → Prop} : Wx d 60 27 ls st σ Q ↔ Wx d 60 28 ls (vi 0 :: st) σ Q := u_iconst d60_27
theorem d60_28 : decode (mB 60) 28 = .ok (.bastore, 1) := by decide +kernel
theorem u60_28 {d : Nat} {ls : Lo} {st : List Va} {σ : Sg} {Q : Rs → Sg → Prop} {x z : Int} {g j : Nat} : Wx d 60 28 ls (vi x :: vi z :: vr g j :: st) σ Q ↔ (isA g j 1 z ∧ (x = 0 ∨ x = 1)) ∧ Wx d 60 29 ls st (up σ g j z.toNat x) Q := u_zast d60_28
theorem d60_29 : decode (mB 60) 29 = .ok (.iinc 3 1, 3) := by decide +kernel
theorem u60_29 {d : Nat} {ls : Lo} {st : List Va} {σ : Sg} {Q : Rs → Sg → Prop} : Wx d 60 29 ls st σ Q ↔ Li (lget ls 3) (fun z => Wx d 60 32 (lset ls 3 (vi (z + 1))) st σ Q) := u_iinc d60_29 (by decide)
theorem d60_32 : decode (mB 60) 32 = .ok (.goto (-30), 3) := by decide +kernel
theorem u60_32 {d : Nat} {ls : Lo} {st : List Va} {σ : Sg} {Q : Rs → Sg → Prop} : Wx d 60 32 ls st σ Q ↔ Wx d 60 2 ls st σ Q := u_goto d60_32 (by decide)
theorem d60_35 : decode (mB 60) 35 = .ok (.iconst 0, 1) := by decide +kernel
theorem u60_35 {d : Nat} {ls : Lo} {st : List Va} {σ : Sg} {Q : Rs → Sg → Prop} : Wx d 60 35 ls st σ Q ↔ Wx d 60 36 ls (vi 0 :: st) σ Q := u_iconst d60_35
theorem d60_36 : decode (mB 60) 36 = .ok (.istore_n 3, 1) := by decide +kernel
theorem u60_36 {d : Nat} {ls : Lo} {st : List Va} {σ : Sg} {Q : Rs → Sg → Prop} {z : Int} : Wx d 60 36 ls (vi z :: st) σ Q ↔ Wx d 60 37 (lset ls 3 (vi z)) st σ Q := u_istore_n d60_36 (by decide)
theorem d60_37 : decode (mB 60) 37 = .ok (.iload_n 3, 1) := by decide +kernel
theorem u60_37 {d : Nat} {ls : Lo} {st : List Va} {σ : Sg} {Q : Rs → Sg → Prop} : Wx d 60 37 ls st σ Q ↔ Li (lget ls 3) (fun z => Wx d 60 38 ls (vi z :: st) σ Q) := u_iload_n d60_37
theorem d60_38 : decode (mB 60) 38 = .ok (.iconst 1, 1) := by decide +kernel
theorem u60_38 {d : Nat} {ls : Lo} {st : List Va} {σ : Sg} {Q : Rs → Sg → Prop} : Wx d 60 38 ls st σ Q ↔ Wx d 60 39 ls (vi 1 :: st) σ Q := u_iconst d60_38
theorem d60_39 : decode (mB 60) 39 = .ok (.iadd, 1) := by decide +kernel
theorem u60_39 {d : Nat} {ls : Lo} {st : List Va} {σ : Sg} {Q : Rs → Sg → Prop} {a b : Int} : Wx d 60 39 ls (vi b :: vi a :: st) σ Q ↔ Wx d 60 40 ls (vi (a + b) :: st) σ Q := u_iadd d60_39
theorem d60_40 : decode (mB 60) 40 = .ok (.iload_n 2, 1) := by decide +kernel
theorem u60_40 {d : Nat} {ls : Lo} {st : List Va} {σ : Sg} {Q : Rs → Sg → Prop} : Wx d 60 40 ls st σ Q ↔ Li (lget ls 2) (fun z => Wx d 60 41 ls (vi z :: st) σ Q) := u_iload_n d60_40
theorem d60_41 : decode (mB 60) 41 = .ok (.if_icmp .ge 28, 3) := by decide +kernel
theorem u60_41 {d : Nat} {ls : Lo} {st : List Va} {σ : Sg} {Q : Rs → Sg → Prop} {a b : Int} (h : -2147483648 ≤ a ∧ a ≤ 2147483647) (h2 : -2147483648 ≤ b ∧ b ≤ 2147483647) : Wx d 60 41 ls (vi b :: vi a :: st) σ Q ↔ if b ≤ a then Wx d 60 69 ls st σ Q else Wx d 60 44 ls st σ Q := u_icge d60_41 (by decide) h h2
theorem d60_44 : decode (mB 60) 44 = .ok (.aload_n 0, 1) := by decide +kernel
theorem u60_44 {d : Nat} {ls : Lo} {st : List Va} {σ : Sg} {Q : Rs → Sg → Prop} : Wx d 60 44 ls st σ Q ↔ Lr (lget ls 0) (fun z => Wx d 60 45 ls (.inr (.inl z) :: st) σ Q) := u_aload_n d60_44
theorem d60_45 : decode (mB 60) 45 = .ok (.invokevirtual 77, 3) := by decide +kernel
theorem u60_45 {d : Nat} {ls : Lo} {st : List Va} {σ : Sg} {Q : Rs → Sg → Prop} {g j : Nat} : Wx (d + 1) 60 45 ls (vr g j :: st) σ Q ↔ (isO g j 5 ∧ st.length ≤ 4 ∧ nlg [] = true) ∧ Wm d 61 [vr g j] σ (Kc (d + 1) 60 48 ls st Q) := u_inv0 d60_45 rfl rfl rfl
theorem d60_48 : decode (mB 60) 48 = .ok (.ifCond .eq 21, 3) := by decide +kernel
theorem u60_48 {d : Nat} {ls : Lo} {st : List Va} {σ : Sg} {Q : Rs → Sg → Prop} {a : Int} (h : -2147483648 ≤ a ∧ a ≤ 2147483647) : Wx d 60 48 ls (vi a :: st) σ Q ↔ if a = 0 then Wx d 60 69 ls st σ Q else Wx d 60 51 ls st σ Q := u_ifeq d60_48 (by decide) h
theorem d60_51 : decode (mB 60) 51 = .ok (.aload_n 0, 1) := by decide +kernel
theorem u60_51 {d : Nat} {ls : Lo} {st : List Va} {σ : Sg} {Q : Rs → Sg → Prop} : Wx d 60 51 ls st σ Q ↔ Lr (lget ls 0) (fun z => Wx d 60 52 ls (.inr (.inl z) :: st) σ Q) := u_aload_n d60_51
theorem d60_52 : decode (mB 60) 52 = .ok (.aload_n 1, 1) := by decide +kernel
theorem u60_52 {d : Nat} {ls : Lo} {st : List Va} {σ : Sg} {Q : Rs → Sg → Prop} : Wx d 60 52 ls st σ Q ↔ Lr (lget ls 1) (fun z => Wx d 60 53 ls (.inr (.inl z) :: st) σ Q) := u_aload_n d60_52
theorem d60_53 : decode (mB 60) 53 = .ok (.iload_n 3, 1) := by decide +kernel
theorem u60_53 {d : Nat} {ls : Lo} {st : List Va} {σ : Sg} {Q : Rs → Sg → Prop} : Wx d 60 53 ls st σ Q ↔ Li (lget ls 3) (fun z => Wx d 60 54 ls (vi z :: st) σ Q) := u_iload_n d60_53
theorem d60_54 : decode (mB 60) 54 = .ok (.aaload, 1) := by decide +kernel
theorem u60_54 {d : Nat} {ls : Lo} {st : List Va} {σ : Sg} {Q : Rs → Sg → Prop} {z : Int} {g j : Nat} : Wx d 60 54 ls (vi z :: vr g j :: st) σ Q ↔ (isA g j 2 z ∨ isA g j 3 z) ∧ On (rf g j z.toNat) (fun w => Wx d 60 55 ls (.inr (.inl w) :: st) σ Q) := u_aald d60_54
theorem d60_55 : decode (mB 60) 55 = .ok (.aload_n 1, 1) := by decide +kernel
theorem u60_55 {d : Nat} {ls : Lo} {st : List Va} {σ : Sg} {Q : Rs → Sg → Prop} : Wx d 60 55 ls st σ Q ↔ Lr (lget ls 1) (fun z => Wx d 60 56 ls (.inr (.inl z) :: st) σ Q) := u_aload_n d60_55
theorem d60_56 : decode (mB 60) 56 = .ok (.iload_n 3, 1) := by decide +kernel
theorem u60_56 {d : Nat} {ls : Lo} {st : List Va} {σ : Sg} {Q : Rs → Sg → Prop} : Wx d 60 56 ls st σ Q ↔ Li (lget ls 3) (fun z => Wx d 60 57 ls (vi z :: st) σ Q) := u_iload_n d60_56
theorem d60_57 : decode (mB 60) 57 = .ok (.iconst 1, 1) := by decide +kernel
theorem u60_57 {d : Nat} {ls : Lo} {st : List Va} {σ : Sg} {Q : Rs → Sg → Prop} : Wx d 60 57 ls st σ Q ↔ Wx d 60 58 ls (vi 1 :: st) σ Q := u_iconst d60_57
theorem d60_58 : decode (mB 60) 58 = .ok (.iadd, 1) := by decide +kernel
theorem u60_58 {d : Nat} {ls : Lo} {st : List Va} {σ : Sg} {Q : Rs → Sg → Prop} {a b : Int} : Wx d 60 58 ls (vi b :: vi a :: st) σ Q ↔ Wx d 60 59 ls (vi (a + b) :: st) σ Q := u_iadd d60_58
theorem d60_59 : decode (mB 60) 59 = .ok (.aaload, 1) := by decide +kernel
theorem u60_59 {d : Nat} {ls : Lo} {st : List Va} {σ : Sg} {Q : Rs → Sg → Prop} {z : Int} {g j : Nat} : Wx d 60 59 ls (vi z :: vr g j :: st) σ Q ↔ (isA g j 2 z ∨ isA g j 3 z) ∧ On (rf g j z.toNat) (fun w => Wx d 60 60 ls (.inr (.inl w) :: st) σ Q) := u_aald d60_59
theorem d60_60 : decode (mB 60) 60 = .ok (.invokevirtual 80, 3) := by decide +kernel
theorem u60_60 {d : Nat} {ls : Lo} {st : List Va} {σ : Sg} {Q : Rs → Sg → Prop} {g j : Nat} {a1 a2 : Va} : Wx (d + 1) 60 60 ls (a2 :: a1 :: vr g j :: st) σ Q ↔ (isO g j 5 ∧ st.length ≤ 4 ∧ nlg [a2, a1] = true) ∧ Wm d 62 [vr g j, a1, a2] σ (Kc (d + 1) 60 63 ls st Q) := u_inv2 d60_60 rfl rfl rfl
theorem d60_63 : decode (mB 60) 63 = .ok (.iinc 3 1, 3) := by decide +kernel
theorem u60_63 {d : Nat} {ls : Lo} {st : List Va} {σ : Sg} {Q : Rs → Sg → Prop} : Wx d 60 63 ls st σ Q ↔ Li (lget ls 3) (fun z => Wx d 60 66 (lset ls 3 (vi (z + 1))) st σ Q) := u_iinc d60_63 (by decide)
theorem d60_66 : decode (mB 60) 66 = .ok (.goto (-29), 3) := by decide +kernel
theorem u60_66 {d : Nat} {ls : Lo} {st : List Va} {σ : Sg} {Q : Rs → Sg → Prop} : Wx d 60 66 ls st σ Q ↔ Wx d 60 37 ls st σ Q := u_goto d60_66 (by decide)
theorem d60_69 : decode (mB 60) 69 = .ok (.iload_n 3, 1) := by decide +kernel
theorem u60_69 {d : Nat} {ls : Lo} {st : List Va} {σ : Sg} {Q : Rs → Sg → Prop} : Wx d 60 69 ls st σ Q ↔ Li (lget ls 3) (fun z => Wx d 60 70 ls (vi z :: st) σ Q) := u_iload_n d60_69
theorem d60_70 : decode (mB 60) 70 = .ok (.ireturn, 1) := by decide +kernel
theorem u60_70 {d : Nat} {ls : Lo} {σ : Sg} {Q : Rs → Sg → Prop} {z : Int} : Wx d 60 70 ls [vi z] σ Q ↔ Q (.inl (some (vi z))) σ := u_iret d60_70 rfl
/-! 61: FiguredBass$Realisation.anyReached()Z -/
theorem d61_0 : decode (mB 61) 0 = .ok (.iconst 0, 1) := by decide +kernel
theorem u61_0 {d : Nat} {ls : Lo} {st : List Va} {σ : Sg} {Q : Rs → Sg → Prop} : Wx d 61 0 ls st σ Q ↔ Wx d 61 1 ls (vi 0 :: st) σ Q := u_iconst d61_0
theorem d61_1 : decode (mB 61) 1 = .ok (.istore_n 1, 1) := by decide +kernel
theorem u61_1 {d : Nat} {ls : Lo} {st : List Va} {σ : Sg} {Q : Rs → Sg → Prop} {z : Int} : Wx d 61 1 ls (vi z :: st) σ Q ↔ Wx d 61 2 (lset ls 1 (vi z)) st σ Q := u_istore_n d61_1 (by decide)
theorem d61_2 : decode (mB 61) 2 = .ok (.iload_n 1, 1) := by decide +kernel
theorem u61_2 {d : Nat} {ls : Lo} {st : List Va} {σ : Sg} {Q : Rs → Sg → Prop} : Wx d 61 2 ls st σ Q ↔ Li (lget ls 1) (fun z => Wx d 61 3 ls (vi z :: st) σ Q) := u_iload_n d61_2
theorem d61_3 : decode (mB 61) 3 = .ok (.bipush 64, 2) := by decide +kernel
theorem u61_3 {d : Nat} {ls : Lo} {st : List Va} {σ : Sg} {Q : Rs → Sg → Prop} : Wx d 61 3 ls st σ Q ↔ Wx d 61 5 ls (vi 64 :: st) σ Q := u_bipush d61_3 (by decide)
theorem d61_5 : decode (mB 61) 5 = .ok (.if_icmp .ge 20, 3) := by decide +kernel
theorem u61_5 {d : Nat} {ls : Lo} {st : List Va} {σ : Sg} {Q : Rs → Sg → Prop} {a b : Int} (h : -2147483648 ≤ a ∧ a ≤ 2147483647) (h2 : -2147483648 ≤ b ∧ b ≤ 2147483647) : Wx d 61 5 ls (vi b :: vi a :: st) σ Q ↔ if b ≤ a then Wx d 61 25 ls st σ Q else Wx d 61 8 ls st σ Q := u_icge d61_5 (by decide) h h2
theorem d61_8 : decode (mB 61) 8 = .ok (.aload_n 0, 1) := by decide +kernel
theorem u61_8 {d : Nat} {ls : Lo} {st : List Va} {σ : Sg} {Q : Rs → Sg → Prop} : Wx d 61 8 ls st σ Q ↔ Lr (lget ls 0) (fun z => Wx d 61 9 ls (.inr (.inl z) :: st) σ Q) := u_aload_n d61_8
theorem d61_9 : decode (mB 61) 9 = .ok (.getfield 28, 3) := by decide +kernel
theorem u61_9 {d : Nat} {ls : Lo} {st : List Va} {σ : Sg} {Q : Rs → Sg → Prop} {g j : Nat} : Wx d 61 9 ls (vr g j :: st) σ Q ↔ isO g j 5 ∧ Wx d 61 12 ls (fvv σ g j 3 :: st) σ Q := u_get (w := (5, 3)) d61_9 rfl
theorem d61_12 : decode (mB 61) 12 = .ok (.iload_n 1, 1) := by decide +kernel
theorem u61_12 {d : Nat} {ls : Lo} {st : List Va} {σ : Sg} {Q : Rs → Sg → Prop} : Wx d 61 12 ls st σ Q ↔ Li (lget ls 1) (fun z => Wx d 61 13 ls (vi z :: st) σ Q) := u_iload_n d61_12
theorem d61_13 : decode (mB 61) 13 = .ok (.baload, 1) := by decide +kernel
theorem u61_13 {d : Nat} {ls : Lo} {st : List Va} {σ : Sg} {Q : Rs → Sg → Prop} {z : Int} {g j : Nat} : Wx d 61 13 ls (vi z :: vr g j :: st) σ Q ↔ isA g j 1 z ∧ Wx d 61 14 ls (vi (σ g j z.toNat) :: st) σ Q := u_zald d61_13
theorem d61_14 : decode (mB 61) 14 = .ok (.ifCond .eq 5, 3) := by decide +kernel
theorem u61_14 {d : Nat} {ls : Lo} {st : List Va} {σ : Sg} {Q : Rs → Sg → Prop} {a : Int} (h : -2147483648 ≤ a ∧ a ≤ 2147483647) : Wx d 61 14 ls (vi a :: st) σ Q ↔ if a = 0 then Wx d 61 19 ls st σ Q else Wx d 61 17 ls st σ Q := u_ifeq d61_14 (by decide) h
theorem d61_17 : decode (mB 61) 17 = .ok (.iconst 1, 1) := by decide +kernel
theorem u61_17 {d : Nat} {ls : Lo} {st : List Va} {σ : Sg} {Q : Rs → Sg → Prop} : Wx d 61 17 ls st σ Q ↔ Wx d 61 18 ls (vi 1 :: st) σ Q := u_iconst d61_17
theorem d61_18 : decode (mB 61) 18 = .ok (.ireturn, 1) := by decide +kernel
theorem u61_18 {d : Nat} {ls : Lo} {σ : Sg} {Q : Rs → Sg → Prop} {z : Int} (h : z = 0 ∨ z = 1) : Wx d 61 18 ls [vi z] σ Q ↔ Q (.inl (some (vi z))) σ := u_zret d61_18 rfl h
theorem d61_19 : decode (mB 61) 19 = .ok (.iinc 1 1, 3) := by decide +kernel
theorem u61_19 {d : Nat} {ls : Lo} {st : List Va} {σ : Sg} {Q : Rs → Sg → Prop} : Wx d 61 19 ls st σ Q ↔ Li (lget ls 1) (fun z => Wx d 61 22 (lset ls 1 (vi (z + 1))) st σ Q) := u_iinc d61_19 (by decide)
theorem d61_22 : decode (mB 61) 22 = .ok (.goto (-20), 3) := by decide +kernel
theorem u61_22 {d : Nat} {ls : Lo} {st : List Va} {σ : Sg} {Q : Rs → Sg → Prop} : Wx d 61 22 ls st σ Q ↔ Wx d 61 2 ls st σ Q := u_goto d61_22 (by decide)
theorem d61_25 : decode (mB 61) 25 = .ok (.iconst 0, 1) := by decide +kernel
theorem u61_25 {d : Nat} {ls : Lo} {st : List Va} {σ : Sg} {Q : Rs → Sg → Prop} : Wx d 61 25 ls st σ Q ↔ Wx d 61 26 ls (vi 0 :: st) σ Q := u_iconst d61_25
theorem d61_26 : decode (mB 61) 26 = .ok (.ireturn, 1) := by decide +kernel
theorem u61_26 {d : Nat} {ls : Lo} {σ : Sg} {Q : Rs → Sg → Prop} {z : Int} (h : z = 0 ∨ z = 1) : Wx d 61 26 ls [vi z] σ Q ↔ Q (.inl (some (vi z))) σ := u_zret d61_26 rfl h
/-! 62: FiguredBass$Realisation.reachNext(LFiguredBass$Chord;LFiguredBass$Chord;)V -/
theorem d62_0 : decode (mB 62) 0 = .ok (.iconst 0, 1) := by decide +kernel
theorem u62_0 {d : Nat} {ls : Lo} {st : List Va} {σ : Sg} {Q : Rs → Sg → Prop} : Wx d 62 0 ls st σ Q ↔ Wx d 62 1 ls (vi 0 :: st) σ Q := u_iconst d62_0
theorem d62_1 : decode (mB 62) 1 = .ok (.istore_n 3, 1) := by decide +kernel
theorem u62_1 {d : Nat} {ls : Lo} {st : List Va} {σ : Sg} {Q : Rs → Sg → Prop} {z : Int} : Wx d 62 1 ls (vi z :: st) σ Q ↔ Wx d 62 2 (lset ls 3 (vi z)) st σ Q := u_istore_n d62_1 (by decide)
theorem d62_2 : decode (mB 62) 2 = .ok (.iload_n 3, 1) := by decide +kernel
theorem u62_2 {d : Nat} {ls : Lo} {st : List Va} {σ : Sg} {Q : Rs → Sg → Prop} : Wx d 62 2 ls st σ Q ↔ Li (lget ls 3) (fun z => Wx d 62 3 ls (vi z :: st) σ Q) := u_iload_n d62_2
theorem d62_3 : decode (mB 62) 3 = .ok (.bipush 64, 2) := by decide +kernel
theorem u62_3 {d : Nat} {ls : Lo} {st : List Va} {σ : Sg} {Q : Rs → Sg → Prop} : Wx d 62 3 ls st σ Q ↔ Wx d 62 5 ls (vi 64 :: st) σ Q := u_bipush d62_3 (by decide)
theorem d62_5 : decode (mB 62) 5 = .ok (.if_icmp .ge 38, 3) := by decide +kernel
theorem u62_5 {d : Nat} {ls : Lo} {st : List Va} {σ : Sg} {Q : Rs → Sg → Prop} {a b : Int} (h : -2147483648 ≤ a ∧ a ≤ 2147483647) (h2 : -2147483648 ≤ b ∧ b ≤ 2147483647) : Wx d 62 5 ls (vi b :: vi a :: st) σ Q ↔ if b ≤ a then Wx d 62 43 ls st σ Q else Wx d 62 8 ls st σ Q := u_icge d62_5 (by decide) h h2
theorem d62_8 : decode (mB 62) 8 = .ok (.aload_n 0, 1) := by decide +kernel
theorem u62_8 {d : Nat} {ls : Lo} {st : List Va} {σ : Sg} {Q : Rs → Sg → Prop} : Wx d 62 8 ls st σ Q ↔ Lr (lget ls 0) (fun z => Wx d 62 9 ls (.inr (.inl z) :: st) σ Q) := u_aload_n d62_8
theorem d62_9 : decode (mB 62) 9 = .ok (.getfield 32, 3) := by decide +kernel
theorem u62_9 {d : Nat} {ls : Lo} {st : List Va} {σ : Sg} {Q : Rs → Sg → Prop} {g j : Nat} : Wx d 62 9 ls (vr g j :: st) σ Q ↔ isO g j 5 ∧ Wx d 62 12 ls (fvv σ g j 4 :: st) σ Q := u_get (w := (5, 4)) d62_9 rfl
theorem d62_12 : decode (mB 62) 12 = .ok (.iload_n 3, 1) := by decide +kernel
theorem u62_12 {d : Nat} {ls : Lo} {st : List Va} {σ : Sg} {Q : Rs → Sg → Prop} : Wx d 62 12 ls st σ Q ↔ Li (lget ls 3) (fun z => Wx d 62 13 ls (vi z :: st) σ Q) := u_iload_n d62_12
theorem d62_13 : decode (mB 62) 13 = .ok (.iload_n 3, 1) := by decide +kernel
theorem u62_13 {d : Nat} {ls : Lo} {st : List Va} {σ : Sg} {Q : Rs → Sg → Prop} : Wx d 62 13 ls st σ Q ↔ Li (lget ls 3) (fun z => Wx d 62 14 ls (vi z :: st) σ Q) := u_iload_n d62_13
theorem d62_14 : decode (mB 62) 14 = .ok (.aload_n 2, 1) := by decide +kernel
theorem u62_14 {d : Nat} {ls : Lo} {st : List Va} {σ : Sg} {Q : Rs → Sg → Prop} : Wx d 62 14 ls st σ Q ↔ Lr (lget ls 2) (fun z => Wx d 62 15 ls (.inr (.inl z) :: st) σ Q) := u_aload_n d62_14
theorem d62_15 : decode (mB 62) 15 = .ok (.getfield 43, 3) := by decide +kernel
theorem u62_15 {d : Nat} {ls : Lo} {st : List Va} {σ : Sg} {Q : Rs → Sg → Prop} {g j : Nat} : Wx d 62 15 ls (vr g j :: st) σ Q ↔ isO g j 3 ∧ Wx d 62 18 ls (fvv σ g j 16 :: st) σ Q := u_get (w := (3, 16)) d62_15 rfl
theorem d62_18 : decode (mB 62) 18 = .ok (.if_icmp .ge 17, 3) := by decide +kernel
theorem u62_18 {d : Nat} {ls : Lo} {st : List Va} {σ : Sg} {Q : Rs → Sg → Prop} {a b : Int} (h : -2147483648 ≤ a ∧ a ≤ 2147483647) (h2 : -2147483648 ≤ b ∧ b ≤ 2147483647) : Wx d 62 18 ls (vi b :: vi a :: st) σ Q ↔ if b ≤ a then Wx d 62 35 ls st σ Q else Wx d 62 21 ls st σ Q := u_icge d62_18 (by decide) h h2
theorem d62_21 : decode (mB 62) 21 = .ok (.aload_n 0, 1) := by decide +kernel
theorem u62_21 {d : Nat} {ls : Lo} {st : List Va} {σ : Sg} {Q : Rs → Sg → Prop} : Wx d 62 21 ls st σ Q ↔ Lr (lget ls 0) (fun z => Wx d 62 22 ls (.inr (.inl z) :: st) σ Q) := u_aload_n d62_21
theorem d62_22 : decode (mB 62) 22 = .ok (.aload_n 1, 1) := by decide +kernel
theorem u62_22 {d : Nat} {ls : Lo} {st : List Va} {σ : Sg} {Q : Rs → Sg → Prop} : Wx d 62 22 ls st σ Q ↔ Lr (lget ls 1) (fun z => Wx d 62 23 ls (.inr (.inl z) :: st) σ Q) := u_aload_n d62_22
theorem d62_23 : decode (mB 62) 23 = .ok (.aload_n 2, 1) := by decide +kernel
theorem u62_23 {d : Nat} {ls : Lo} {st : List Va} {σ : Sg} {Q : Rs → Sg → Prop} : Wx d 62 23 ls st σ Q ↔ Lr (lget ls 2) (fun z => Wx d 62 24 ls (.inr (.inl z) :: st) σ Q) := u_aload_n d62_23
theorem d62_24 : decode (mB 62) 24 = .ok (.iload_n 3, 1) := by decide +kernel
theorem u62_24 {d : Nat} {ls : Lo} {st : List Va} {σ : Sg} {Q : Rs → Sg → Prop} : Wx d 62 24 ls st σ Q ↔ Li (lget ls 3) (fun z => Wx d 62 25 ls (vi z :: st) σ Q) := u_iload_n d62_24
theorem d62_25 : decode (mB 62) 25 = .ok (.invokevirtual 84, 3) := by decide +kernel
theorem u62_25 {d : Nat} {ls : Lo} {st : List Va} {σ : Sg} {Q : Rs → Sg → Prop} {g j : Nat} {a1 a2 a3 : Va} : Wx (d + 1) 62 25 ls (a3 :: a2 :: a1 :: vr g j :: st) σ Q ↔ (isO g j 5 ∧ st.length ≤ 4 ∧ nlg [a3, a2, a1] = true) ∧ Wm d 63 [vr g j, a1, a2, a3] σ (Kc (d + 1) 62 28 ls st Q) := u_inv3 d62_25 rfl rfl rfl
theorem d62_28 : decode (mB 62) 28 = .ok (.ifCond .eq 7, 3) := by decide +kernel
theorem u62_28 {d : Nat} {ls : Lo} {st : List Va} {σ : Sg} {Q : Rs → Sg → Prop} {a : Int} (h : -2147483648 ≤ a ∧ a ≤ 2147483647) : Wx d 62 28 ls (vi a :: st) σ Q ↔ if a = 0 then Wx d 62 35 ls st σ Q else Wx d 62 31 ls st σ Q := u_ifeq d62_28 (by decide) h
theorem d62_31 : decode (mB 62) 31 = .ok (.iconst 1, 1) := by decide +kernel
theorem u62_31 {d : Nat} {ls : Lo} {st : List Va} {σ : Sg} {Q : Rs → Sg → Prop} : Wx d 62 31 ls st σ Q ↔ Wx d 62 32 ls (vi 1 :: st) σ Q := u_iconst d62_31
theorem d62_32 : decode (mB 62) 32 = .ok (.goto 4, 3) := by decide +kernel
theorem u62_32 {d : Nat} {ls : Lo} {st : List Va} {σ : Sg} {Q : Rs → Sg → Prop} : Wx d 62 32 ls st σ Q ↔ Wx d 62 36 ls st σ Q := u_goto d62_32 (by decide)
theorem d62_35 : decode (mB 62) 35 = .ok (.iconst 0, 1) := by decide +kernel
theorem u62_35 {d : Nat} {ls : Lo} {st : List Va} {σ : Sg} {Q : Rs → Sg → Prop} : Wx d 62 35 ls st σ Q ↔ Wx d 62 36 ls (vi 0 :: st) σ Q := u_iconst d62_35
theorem d62_36 : decode (mB 62) 36 = .ok (.bastore, 1) := by decide +kernel
theorem u62_36 {d : Nat} {ls : Lo} {st : List Va} {σ : Sg} {Q : Rs → Sg → Prop} {x z : Int} {g j : Nat} : Wx d 62 36 ls (vi x :: vi z :: vr g j :: st) σ Q ↔ (isA g j 1 z ∧ (x = 0 ∨ x = 1)) ∧ Wx d 62 37 ls st (up σ g j z.toNat x) Q := u_zast d62_36
theorem d62_37 : decode (mB 62) 37 = .ok (.iinc 3 1, 3) := by decide +kernel
theorem u62_37 {d : Nat} {ls : Lo} {st : List Va} {σ : Sg} {Q : Rs → Sg → Prop} : Wx d 62 37 ls st σ Q ↔ Li (lget ls 3) (fun z => Wx d 62 40 (lset ls 3 (vi (z + 1))) st σ Q) := u_iinc d62_37 (by decide)
theorem d62_40 : decode (mB 62) 40 = .ok (.goto (-38), 3) := by decide +kernel
theorem u62_40 {d : Nat} {ls : Lo} {st : List Va} {σ : Sg} {Q : Rs → Sg → Prop} : Wx d 62 40 ls st σ Q ↔ Wx d 62 2 ls st σ Q := u_goto d62_40 (by decide)
theorem d62_43 : decode (mB 62) 43 = .ok (.iconst 0, 1) := by decide +kernel
theorem u62_43 {d : Nat} {ls : Lo} {st : List Va} {σ : Sg} {Q : Rs → Sg → Prop} : Wx d 62 43 ls st σ Q ↔ Wx d 62 44 ls (vi 0 :: st) σ Q := u_iconst d62_43
theorem d62_44 : decode (mB 62) 44 = .ok (.istore_n 3, 1) := by decide +kernel
theorem u62_44 {d : Nat} {ls : Lo} {st : List Va} {σ : Sg} {Q : Rs → Sg → Prop} {z : Int} : Wx d 62 44 ls (vi z :: st) σ Q ↔ Wx d 62 45 (lset ls 3 (vi z)) st σ Q := u_istore_n d62_44 (by decide)
theorem d62_45 : decode (mB 62) 45 = .ok (.iload_n 3, 1) := by decide +kernel
theorem u62_45 {d : Nat} {ls : Lo} {st : List Va} {σ : Sg} {Q : Rs → Sg → Prop} : Wx d 62 45 ls st σ Q ↔ Li (lget ls 3) (fun z => Wx d 62 46 ls (vi z :: st) σ Q) := u_iload_n d62_45
theorem d62_46 : decode (mB 62) 46 = .ok (.bipush 64, 2) := by decide +kernel
theorem u62_46 {d : Nat} {ls : Lo} {st : List Va} {σ : Sg} {Q : Rs → Sg → Prop} : Wx d 62 46 ls st σ Q ↔ Wx d 62 48 ls (vi 64 :: st) σ Q := u_bipush d62_46 (by decide)
theorem d62_48 : decode (mB 62) 48 = .ok (.if_icmp .ge 21, 3) := by decide +kernel
theorem u62_48 {d : Nat} {ls : Lo} {st : List Va} {σ : Sg} {Q : Rs → Sg → Prop} {a b : Int} (h : -2147483648 ≤ a ∧ a ≤ 2147483647) (h2 : -2147483648 ≤ b ∧ b ≤ 2147483647) : Wx d 62 48 ls (vi b :: vi a :: st) σ Q ↔ if b ≤ a then Wx d 62 69 ls st σ Q else Wx d 62 51 ls st σ Q := u_icge d62_48 (by decide) h h2
theorem d62_51 : decode (mB 62) 51 = .ok (.aload_n 0, 1) := by decide +kernel
theorem u62_51 {d : Nat} {ls : Lo} {st : List Va} {σ : Sg} {Q : Rs → Sg → Prop} : Wx d 62 51 ls st σ Q ↔ Lr (lget ls 0) (fun z => Wx d 62 52 ls (.inr (.inl z) :: st) σ Q) := u_aload_n d62_51
theorem d62_52 : decode (mB 62) 52 = .ok (.getfield 28, 3) := by decide +kernel
theorem u62_52 {d : Nat} {ls : Lo} {st : List Va} {σ : Sg} {Q : Rs → Sg → Prop} {g j : Nat} : Wx d 62 52 ls (vr g j :: st) σ Q ↔ isO g j 5 ∧ Wx d 62 55 ls (fvv σ g j 3 :: st) σ Q := u_get (w := (5, 3)) d62_52 rfl
theorem d62_55 : decode (mB 62) 55 = .ok (.iload_n 3, 1) := by decide +kernel
theorem u62_55 {d : Nat} {ls : Lo} {st : List Va} {σ : Sg} {Q : Rs → Sg → Prop} : Wx d 62 55 ls st σ Q ↔ Li (lget ls 3) (fun z => Wx d 62 56 ls (vi z :: st) σ Q) := u_iload_n d62_55
theorem d62_56 : decode (mB 62) 56 = .ok (.aload_n 0, 1) := by decide +kernel
theorem u62_56 {d : Nat} {ls : Lo} {st : List Va} {σ : Sg} {Q : Rs → Sg → Prop} : Wx d 62 56 ls st σ Q ↔ Lr (lget ls 0) (fun z => Wx d 62 57 ls (.inr (.inl z) :: st) σ Q) := u_aload_n d62_56
theorem d62_57 : decode (mB 62) 57 = .ok (.getfield 32, 3) := by decide +kernel
theorem u62_57 {d : Nat} {ls : Lo} {st : List Va} {σ : Sg} {Q : Rs → Sg → Prop} {g j : Nat} : Wx d 62 57 ls (vr g j :: st) σ Q ↔ isO g j 5 ∧ Wx d 62 60 ls (fvv σ g j 4 :: st) σ Q := u_get (w := (5, 4)) d62_57 rfl
theorem d62_60 : decode (mB 62) 60 = .ok (.iload_n 3, 1) := by decide +kernel
theorem u62_60 {d : Nat} {ls : Lo} {st : List Va} {σ : Sg} {Q : Rs → Sg → Prop} : Wx d 62 60 ls st σ Q ↔ Li (lget ls 3) (fun z => Wx d 62 61 ls (vi z :: st) σ Q) := u_iload_n d62_60
theorem d62_61 : decode (mB 62) 61 = .ok (.baload, 1) := by decide +kernel
theorem u62_61 {d : Nat} {ls : Lo} {st : List Va} {σ : Sg} {Q : Rs → Sg → Prop} {z : Int} {g j : Nat} : Wx d 62 61 ls (vi z :: vr g j :: st) σ Q ↔ isA g j 1 z ∧ Wx d 62 62 ls (vi (σ g j z.toNat) :: st) σ Q := u_zald d62_61
theorem d62_62 : decode (mB 62) 62 = .ok (.bastore, 1) := by decide +kernel
theorem u62_62 {d : Nat} {ls : Lo} {st : List Va} {σ : Sg} {Q : Rs → Sg → Prop} {x z : Int} {g j : Nat} : Wx d 62 62 ls (vi x :: vi z :: vr g j :: st) σ Q ↔ (isA g j 1 z ∧ (x = 0 ∨ x = 1)) ∧ Wx d 62 63 ls st (up σ g j z.toNat x) Q := u_zast d62_62
theorem d62_63 : decode (mB 62) 63 = .ok (.iinc 3 1, 3) := by decide +kernel
theorem u62_63 {d : Nat} {ls : Lo} {st : List Va} {σ : Sg} {Q : Rs → Sg → Prop} : Wx d 62 63 ls st σ Q ↔ Li (lget ls 3) (fun z => Wx d 62 66 (lset ls 3 (vi (z + 1))) st σ Q) := u_iinc d62_63 (by decide)
theorem d62_66 : decode (mB 62) 66 = .ok (.goto (-21), 3) := by decide +kernel
theorem u62_66 {d : Nat} {ls : Lo} {st : List Va} {σ : Sg} {Q : Rs → Sg → Prop} : Wx d 62 66 ls st σ Q ↔ Wx d 62 45 ls st σ Q := u_goto d62_66 (by decide)
theorem d62_69 : decode (mB 62) 69 = .ok (.return_, 1) := by decide +kernel
theorem u62_69 {d : Nat} {ls : Lo} {σ : Sg} {Q : Rs → Sg → Prop} : Wx d 62 69 ls [] σ Q ↔ Q (.inl none) σ := u_vret d62_69 rfl
/-! 63: FiguredBass$Realisation.isReachable(LFiguredBass$Chord;LFiguredBass$Chord;I)Z -/
theorem d63_0 : decode (mB 63) 0 = .ok (.aload_n 0, 1) := by decide +kernel
theorem u63_0 {d : Nat} {ls : Lo} {st : List Va} {σ : Sg} {Q : Rs → Sg → Prop} : Wx d 63 0 ls st σ Q ↔ Lr (lget ls 0) (fun z => Wx d 63 1 ls (.inr (.inl z) :: st) σ Q) := u_aload_n d63_0
theorem d63_1 : decode (mB 63) 1 = .ok (.getfield 12, 3) := by decide +kernel
theorem u63_1 {d : Nat} {ls : Lo} {st : List Va} {σ : Sg} {Q : Rs → Sg → Prop} {g j : Nat} : Wx d 63 1 ls (vr g j :: st) σ Q ↔ isO g j 5 ∧ Wx d 63 4 ls (fvv σ g j 0 :: st) σ Q := u_get (w := (5, 0)) d63_1 rfl
theorem d63_4 : decode (mB 63) 4 = .ok (.aload_n 2, 1) := by decide +kernel
theorem u63_4 {d : Nat} {ls : Lo} {st : List Va} {σ : Sg} {Q : Rs → Sg → Prop} : Wx d 63 4 ls st σ Q ↔ Lr (lget ls 2) (fun z => Wx d 63 5 ls (.inr (.inl z) :: st) σ Q) := u_aload_n d63_4
theorem d63_5 : decode (mB 63) 5 = .ok (.iload_n 3, 1) := by decide +kernel
theorem u63_5 {d : Nat} {ls : Lo} {st : List Va} {σ : Sg} {Q : Rs → Sg → Prop} : Wx d 63 5 ls st σ Q ↔ Li (lget ls 3) (fun z => Wx d 63 6 ls (vi z :: st) σ Q) := u_iload_n d63_5
theorem d63_6 : decode (mB 63) 6 = .ok (.invokevirtual 66, 3) := by decide +kernel
theorem u63_6 {d : Nat} {ls : Lo} {st : List Va} {σ : Sg} {Q : Rs → Sg → Prop} {g j : Nat} {a1 a2 : Va} : Wx (d + 1) 63 6 ls (a2 :: a1 :: vr g j :: st) σ Q ↔ (isO g j 4 ∧ st.length ≤ 4 ∧ nlg [a2, a1] = true) ∧ Wm d 48 [vr g j, a1, a2] σ (Kc (d + 1) 63 9 ls st Q) := u_inv2 d63_6 rfl rfl rfl
theorem d63_9 : decode (mB 63) 9 = .ok (.iconst 0, 1) := by decide +kernel
theorem u63_9 {d : Nat} {ls : Lo} {st : List Va} {σ : Sg} {Q : Rs → Sg → Prop} : Wx d 63 9 ls st σ Q ↔ Wx d 63 10 ls (vi 0 :: st) σ Q := u_iconst d63_9
theorem d63_10 : decode (mB 63) 10 = .ok (.istore 4, 2) := by decide +kernel
theorem u63_10 {d : Nat} {ls : Lo} {st : List Va} {σ : Sg} {Q : Rs → Sg → Prop} {z : Int} : Wx d 63 10 ls (vi z :: st) σ Q ↔ Wx d 63 12 (lset ls 4 (vi z)) st σ Q := u_istore d63_10 (by decide)
theorem d63_12 : decode (mB 63) 12 = .ok (.iload 4, 2) := by decide +kernel
theorem u63_12 {d : Nat} {ls : Lo} {st : List Va} {σ : Sg} {Q : Rs → Sg → Prop} : Wx d 63 12 ls st σ Q ↔ Li (lget ls 4) (fun z => Wx d 63 14 ls (vi z :: st) σ Q) := u_iload d63_12
theorem d63_14 : decode (mB 63) 14 = .ok (.aload_n 1, 1) := by decide +kernel
theorem u63_14 {d : Nat} {ls : Lo} {st : List Va} {σ : Sg} {Q : Rs → Sg → Prop} : Wx d 63 14 ls st σ Q ↔ Lr (lget ls 1) (fun z => Wx d 63 15 ls (.inr (.inl z) :: st) σ Q) := u_aload_n d63_14
theorem d63_15 : decode (mB 63) 15 = .ok (.getfield 43, 3) := by decide +kernel
theorem u63_15 {d : Nat} {ls : Lo} {st : List Va} {σ : Sg} {Q : Rs → Sg → Prop} {g j : Nat} : Wx d 63 15 ls (vr g j :: st) σ Q ↔ isO g j 3 ∧ Wx d 63 18 ls (fvv σ g j 16 :: st) σ Q := u_get (w := (3, 16)) d63_15 rfl
theorem d63_18 : decode (mB 63) 18 = .ok (.if_icmp .ge 41, 3) := by decide +kernel
theorem u63_18 {d : Nat} {ls : Lo} {st : List Va} {σ : Sg} {Q : Rs → Sg → Prop} {a b : Int} (h : -2147483648 ≤ a ∧ a ≤ 2147483647) (h2 : -2147483648 ≤ b ∧ b ≤ 2147483647) : Wx d 63 18 ls (vi b :: vi a :: st) σ Q ↔ if b ≤ a then Wx d 63 59 ls st σ Q else Wx d 63 21 ls st σ Q := u_icge d63_18 (by decide) h h2
theorem d63_21 : decode (mB 63) 21 = .ok (.aload_n 0, 1) := by decide +kernel
theorem u63_21 {d : Nat} {ls : Lo} {st : List Va} {σ : Sg} {Q : Rs → Sg → Prop} : Wx d 63 21 ls st σ Q ↔ Lr (lget ls 0) (fun z => Wx d 63 22 ls (.inr (.inl z) :: st) σ Q) := u_aload_n d63_21
theorem d63_22 : decode (mB 63) 22 = .ok (.getfield 28, 3) := by decide +kernel
theorem u63_22 {d : Nat} {ls : Lo} {st : List Va} {σ : Sg} {Q : Rs → Sg → Prop} {g j : Nat} : Wx d 63 22 ls (vr g j :: st) σ Q ↔ isO g j 5 ∧ Wx d 63 25 ls (fvv σ g j 3 :: st) σ Q := u_get (w := (5, 3)) d63_22 rfl
theorem d63_25 : decode (mB 63) 25 = .ok (.iload 4, 2) := by decide +kernel
theorem u63_25 {d : Nat} {ls : Lo} {st : List Va} {σ : Sg} {Q : Rs → Sg → Prop} : Wx d 63 25 ls st σ Q ↔ Li (lget ls 4) (fun z => Wx d 63 27 ls (vi z :: st) σ Q) := u_iload d63_25
theorem d63_27 : decode (mB 63) 27 = .ok (.baload, 1) := by decide +kernel
theorem u63_27 {d : Nat} {ls : Lo} {st : List Va} {σ : Sg} {Q : Rs → Sg → Prop} {z : Int} {g j : Nat} : Wx d 63 27 ls (vi z :: vr g j :: st) σ Q ↔ isA g j 1 z ∧ Wx d 63 28 ls (vi (σ g j z.toNat) :: st) σ Q := u_zald d63_27
theorem d63_28 : decode (mB 63) 28 = .ok (.ifCond .eq 25, 3) := by decide +kernel
theorem u63_28 {d : Nat} {ls : Lo} {st : List Va} {σ : Sg} {Q : Rs → Sg → Prop} {a : Int} (h : -2147483648 ≤ a ∧ a ≤ 2147483647) : Wx d 63 28 ls (vi a :: st) σ Q ↔ if a = 0 then Wx d 63 53 ls st σ Q else Wx d 63 31 ls st σ Q := u_ifeq d63_28 (by decide) h
theorem d63_31 : decode (mB 63) 31 = .ok (.aload_n 0, 1) := by decide +kernel
theorem u63_31 {d : Nat} {ls : Lo} {st : List Va} {σ : Sg} {Q : Rs → Sg → Prop} : Wx d 63 31 ls st σ Q ↔ Lr (lget ls 0) (fun z => Wx d 63 32 ls (.inr (.inl z) :: st) σ Q) := u_aload_n d63_31
theorem d63_32 : decode (mB 63) 32 = .ok (.getfield 12, 3) := by decide +kernel
theorem u63_32 {d : Nat} {ls : Lo} {st : List Va} {σ : Sg} {Q : Rs → Sg → Prop} {g j : Nat} : Wx d 63 32 ls (vr g j :: st) σ Q ↔ isO g j 5 ∧ Wx d 63 35 ls (fvv σ g j 0 :: st) σ Q := u_get (w := (5, 0)) d63_32 rfl
theorem d63_35 : decode (mB 63) 35 = .ok (.aload_n 1, 1) := by decide +kernel
theorem u63_35 {d : Nat} {ls : Lo} {st : List Va} {σ : Sg} {Q : Rs → Sg → Prop} : Wx d 63 35 ls st σ Q ↔ Lr (lget ls 1) (fun z => Wx d 63 36 ls (.inr (.inl z) :: st) σ Q) := u_aload_n d63_35
theorem d63_36 : decode (mB 63) 36 = .ok (.iload 4, 2) := by decide +kernel
theorem u63_36 {d : Nat} {ls : Lo} {st : List Va} {σ : Sg} {Q : Rs → Sg → Prop} : Wx d 63 36 ls st σ Q ↔ Li (lget ls 4) (fun z => Wx d 63 38 ls (vi z :: st) σ Q) := u_iload d63_36
theorem d63_38 : decode (mB 63) 38 = .ok (.invokevirtual 62, 3) := by decide +kernel
theorem u63_38 {d : Nat} {ls : Lo} {st : List Va} {σ : Sg} {Q : Rs → Sg → Prop} {g j : Nat} {a1 a2 : Va} : Wx (d + 1) 63 38 ls (a2 :: a1 :: vr g j :: st) σ Q ↔ (isO g j 4 ∧ st.length ≤ 4 ∧ nlg [a2, a1] = true) ∧ Wm d 47 [vr g j, a1, a2] σ (Kc (d + 1) 63 41 ls st Q) := u_inv2 d63_38 rfl rfl rfl
theorem d63_41 : decode (mB 63) 41 = .ok (.aload_n 0, 1) := by decide +kernel
theorem u63_41 {d : Nat} {ls : Lo} {st : List Va} {σ : Sg} {Q : Rs → Sg → Prop} : Wx d 63 41 ls st σ Q ↔ Lr (lget ls 0) (fun z => Wx d 63 42 ls (.inr (.inl z) :: st) σ Q) := u_aload_n d63_41
theorem d63_42 : decode (mB 63) 42 = .ok (.getfield 12, 3) := by decide +kernel
theorem u63_42 {d : Nat} {ls : Lo} {st : List Va} {σ : Sg} {Q : Rs → Sg → Prop} {g j : Nat} : Wx d 63 42 ls (vr g j :: st) σ Q ↔ isO g j 5 ∧ Wx d 63 45 ls (fvv σ g j 0 :: st) σ Q := u_get (w := (5, 0)) d63_42 rfl
theorem d63_45 : decode (mB 63) 45 = .ok (.invokevirtual 73, 3) := by decide +kernel
theorem u63_45 {d : Nat} {ls : Lo} {st : List Va} {σ : Sg} {Q : Rs → Sg → Prop} {g j : Nat} : Wx (d + 1) 63 45 ls (vr g j :: st) σ Q ↔ (isO g j 4 ∧ st.length ≤ 4 ∧ nlg [] = true) ∧ Wm d 50 [vr g j] σ (Kc (d + 1) 63 48 ls st Q) := u_inv0 d63_45 rfl rfl rfl
theorem d63_48 : decode (mB 63) 48 = .ok (.ifCond .eq 5, 3) := by decide +kernel
theorem u63_48 {d : Nat} {ls : Lo} {st : List Va} {σ : Sg} {Q : Rs → Sg → Prop} {a : Int} (h : -2147483648 ≤ a ∧ a ≤ 2147483647) : Wx d 63 48 ls (vi a :: st) σ Q ↔ if a = 0 then Wx d 63 53 ls st σ Q else Wx d 63 51 ls st σ Q := u_ifeq d63_48 (by decide) h
theorem d63_51 : decode (mB 63) 51 = .ok (.iconst 1, 1) := by decide +kernel
theorem u63_51 {d : Nat} {ls : Lo} {st : List Va} {σ : Sg} {Q : Rs → Sg → Prop} : Wx d 63 51 ls st σ Q ↔ Wx d 63 52 ls (vi 1 :: st) σ Q := u_iconst d63_51
theorem d63_52 : decode (mB 63) 52 = .ok (.ireturn, 1) := by decide +kernel
theorem u63_52 {d : Nat} {ls : Lo} {σ : Sg} {Q : Rs → Sg → Prop} {z : Int} (h : z = 0 ∨ z = 1) : Wx d 63 52 ls [vi z] σ Q ↔ Q (.inl (some (vi z))) σ := u_zret d63_52 rfl h
theorem d63_53 : decode (mB 63) 53 = .ok (.iinc 4 1, 3) := by decide +kernel
theorem u63_53 {d : Nat} {ls : Lo} {st : List Va} {σ : Sg} {Q : Rs → Sg → Prop} : Wx d 63 53 ls st σ Q ↔ Li (lget ls 4) (fun z => Wx d 63 56 (lset ls 4 (vi (z + 1))) st σ Q) := u_iinc d63_53 (by decide)
theorem d63_56 : decode (mB 63) 56 = .ok (.goto (-44), 3) := by decide +kernel
theorem u63_56 {d : Nat} {ls : Lo} {st : List Va} {σ : Sg} {Q : Rs → Sg → Prop} : Wx d 63 56 ls st σ Q ↔ Wx d 63 12 ls st σ Q := u_goto d63_56 (by decide)
theorem d63_59 : decode (mB 63) 59 = .ok (.iconst 0, 1) := by decide +kernel
theorem u63_59 {d : Nat} {ls : Lo} {st : List Va} {σ : Sg} {Q : Rs → Sg → Prop} : Wx d 63 59 ls st σ Q ↔ Wx d 63 60 ls (vi 0 :: st) σ Q := u_iconst d63_59
theorem d63_60 : decode (mB 63) 60 = .ok (.ireturn, 1) := by decide +kernel
theorem u63_60 {d : Nat} {ls : Lo} {σ : Sg} {Q : Rs → Sg → Prop} {z : Int} (h : z = 0 ∨ z = 1) : Wx d 63 60 ls [vi z] σ Q ↔ Q (.inl (some (vi z))) σ := u_zret d63_60 rfl h
/-! 64: FiguredBass$Realisation.soundOf([LFiguredBass$Chord;II)I -/
theorem d64_0 : decode (mB 64) 0 = .ok (.aload_n 1, 1) := by decide +kernel
theorem u64_0 {d : Nat} {ls : Lo} {st : List Va} {σ : Sg} {Q : Rs → Sg → Prop} : Wx d 64 0 ls st σ Q ↔ Lr (lget ls 1) (fun z => Wx d 64 1 ls (.inr (.inl z) :: st) σ Q) := u_aload_n d64_0
theorem d64_1 : decode (mB 64) 1 = .ok (.iload_n 2, 1) := by decide +kernel
theorem u64_1 {d : Nat} {ls : Lo} {st : List Va} {σ : Sg} {Q : Rs → Sg → Prop} : Wx d 64 1 ls st σ Q ↔ Li (lget ls 2) (fun z => Wx d 64 2 ls (vi z :: st) σ Q) := u_iload_n d64_1
theorem d64_2 : decode (mB 64) 2 = .ok (.aaload, 1) := by decide +kernel
theorem u64_2 {d : Nat} {ls : Lo} {st : List Va} {σ : Sg} {Q : Rs → Sg → Prop} {z : Int} {g j : Nat} : Wx d 64 2 ls (vi z :: vr g j :: st) σ Q ↔ (isA g j 2 z ∨ isA g j 3 z) ∧ On (rf g j z.toNat) (fun w => Wx d 64 3 ls (.inr (.inl w) :: st) σ Q) := u_aald d64_2
theorem d64_3 : decode (mB 64) 3 = .ok (.aload_n 0, 1) := by decide +kernel
theorem u64_3 {d : Nat} {ls : Lo} {st : List Va} {σ : Sg} {Q : Rs → Sg → Prop} : Wx d 64 3 ls st σ Q ↔ Lr (lget ls 0) (fun z => Wx d 64 4 ls (.inr (.inl z) :: st) σ Q) := u_aload_n d64_3
theorem d64_4 : decode (mB 64) 4 = .ok (.getfield 35, 3) := by decide +kernel
theorem u64_4 {d : Nat} {ls : Lo} {st : List Va} {σ : Sg} {Q : Rs → Sg → Prop} {g j : Nat} : Wx d 64 4 ls (vr g j :: st) σ Q ↔ isO g j 5 ∧ Wx d 64 7 ls (fvv σ g j 5 :: st) σ Q := u_get (w := (5, 5)) d64_4 rfl
theorem d64_7 : decode (mB 64) 7 = .ok (.iload_n 2, 1) := by decide +kernel
theorem u64_7 {d : Nat} {ls : Lo} {st : List Va} {σ : Sg} {Q : Rs → Sg → Prop} : Wx d 64 7 ls st σ Q ↔ Li (lget ls 2) (fun z => Wx d 64 8 ls (vi z :: st) σ Q) := u_iload_n d64_7
theorem d64_8 : decode (mB 64) 8 = .ok (.iaload, 1) := by decide +kernel
theorem u64_8 {d : Nat} {ls : Lo} {st : List Va} {σ : Sg} {Q : Rs → Sg → Prop} {z : Int} {g j : Nat} : Wx d 64 8 ls (vi z :: vr g j :: st) σ Q ↔ On (ial σ g j z) (fun x => Wx d 64 9 ls (vi x :: st) σ Q) := u_iald d64_8
theorem d64_9 : decode (mB 64) 9 = .ok (.iload_n 3, 1) := by decide +kernel
theorem u64_9 {d : Nat} {ls : Lo} {st : List Va} {σ : Sg} {Q : Rs → Sg → Prop} : Wx d 64 9 ls st σ Q ↔ Li (lget ls 3) (fun z => Wx d 64 10 ls (vi z :: st) σ Q) := u_iload_n d64_9
theorem d64_10 : decode (mB 64) 10 = .ok (.invokevirtual 88, 3) := by decide +kernel
theorem u64_10 {d : Nat} {ls : Lo} {st : List Va} {σ : Sg} {Q : Rs → Sg → Prop} {g j : Nat} {a1 a2 : Va} : Wx (d + 1) 64 10 ls (a2 :: a1 :: vr g j :: st) σ Q ↔ (isO g j 3 ∧ st.length ≤ 4 ∧ nlg [a2, a1] = true) ∧ Wm d 43 [vr g j, a1, a2] σ (Kc (d + 1) 64 13 ls st Q) := u_inv2 d64_10 rfl rfl rfl
theorem d64_13 : decode (mB 64) 13 = .ok (.ireturn, 1) := by decide +kernel
theorem u64_13 {d : Nat} {ls : Lo} {σ : Sg} {Q : Rs → Sg → Prop} {z : Int} : Wx d 64 13 ls [vi z] σ Q ↔ Q (.inl (some (vi z))) σ := u_iret d64_13 rfl
/-! 65: FiguredBass$Realisation.shareOf([LFiguredBass$Chord;I)I -/
theorem d65_0 : decode (mB 65) 0 = .ok (.aload_n 1, 1) := by decide +kernel
theorem u65_0 {d : Nat} {ls : Lo} {st : List Va} {σ : Sg} {Q : Rs → Sg → Prop} : Wx d 65 0 ls st σ Q ↔ Lr (lget ls 1) (fun z => Wx d 65 1 ls (.inr (.inl z) :: st) σ Q) := u_aload_n d65_0
theorem d65_1 : decode (mB 65) 1 = .ok (.iload_n 2, 1) := by decide +kernel
theorem u65_1 {d : Nat} {ls : Lo} {st : List Va} {σ : Sg} {Q : Rs → Sg → Prop} : Wx d 65 1 ls st σ Q ↔ Li (lget ls 2) (fun z => Wx d 65 2 ls (vi z :: st) σ Q) := u_iload_n d65_1
theorem d65_2 : decode (mB 65) 2 = .ok (.aaload, 1) := by decide +kernel
theorem u65_2 {d : Nat} {ls : Lo} {st : List Va} {σ : Sg} {Q : Rs → Sg → Prop} {z : Int} {g j : Nat} : Wx d 65 2 ls (vi z :: vr g j :: st) σ Q ↔ (isA g j 2 z ∨ isA g j 3 z) ∧ On (rf g j z.toNat) (fun w => Wx d 65 3 ls (.inr (.inl w) :: st) σ Q) := u_aald d65_2
theorem d65_3 : decode (mB 65) 3 = .ok (.aload_n 0, 1) := by decide +kernel
theorem u65_3 {d : Nat} {ls : Lo} {st : List Va} {σ : Sg} {Q : Rs → Sg → Prop} : Wx d 65 3 ls st σ Q ↔ Lr (lget ls 0) (fun z => Wx d 65 4 ls (.inr (.inl z) :: st) σ Q) := u_aload_n d65_3
theorem d65_4 : decode (mB 65) 4 = .ok (.getfield 35, 3) := by decide +kernel
theorem u65_4 {d : Nat} {ls : Lo} {st : List Va} {σ : Sg} {Q : Rs → Sg → Prop} {g j : Nat} : Wx d 65 4 ls (vr g j :: st) σ Q ↔ isO g j 5 ∧ Wx d 65 7 ls (fvv σ g j 5 :: st) σ Q := u_get (w := (5, 5)) d65_4 rfl
theorem d65_7 : decode (mB 65) 7 = .ok (.iload_n 2, 1) := by decide +kernel
theorem u65_7 {d : Nat} {ls : Lo} {st : List Va} {σ : Sg} {Q : Rs → Sg → Prop} : Wx d 65 7 ls st σ Q ↔ Li (lget ls 2) (fun z => Wx d 65 8 ls (vi z :: st) σ Q) := u_iload_n d65_7
theorem d65_8 : decode (mB 65) 8 = .ok (.iaload, 1) := by decide +kernel
theorem u65_8 {d : Nat} {ls : Lo} {st : List Va} {σ : Sg} {Q : Rs → Sg → Prop} {z : Int} {g j : Nat} : Wx d 65 8 ls (vi z :: vr g j :: st) σ Q ↔ On (ial σ g j z) (fun x => Wx d 65 9 ls (vi x :: st) σ Q) := u_iald d65_8
theorem d65_9 : decode (mB 65) 9 = .ok (.invokevirtual 59, 3) := by decide +kernel
theorem u65_9 {d : Nat} {ls : Lo} {st : List Va} {σ : Sg} {Q : Rs → Sg → Prop} {g j : Nat} {a1 : Va} : Wx (d + 1) 65 9 ls (a1 :: vr g j :: st) σ Q ↔ (isO g j 3 ∧ st.length ≤ 4 ∧ nlg [a1] = true) ∧ Wm d 45 [vr g j, a1] σ (Kc (d + 1) 65 12 ls st Q) := u_inv1 d65_9 rfl rfl rfl
theorem d65_12 : decode (mB 65) 12 = .ok (.istore_n 3, 1) := by decide +kernel
theorem u65_12 {d : Nat} {ls : Lo} {st : List Va} {σ : Sg} {Q : Rs → Sg → Prop} {z : Int} : Wx d 65 12 ls (vi z :: st) σ Q ↔ Wx d 65 13 (lset ls 3 (vi z)) st σ Q := u_istore_n d65_12 (by decide)
theorem d65_13 : decode (mB 65) 13 = .ok (.iload_n 2, 1) := by decide +kernel
theorem u65_13 {d : Nat} {ls : Lo} {st : List Va} {σ : Sg} {Q : Rs → Sg → Prop} : Wx d 65 13 ls st σ Q ↔ Li (lget ls 2) (fun z => Wx d 65 14 ls (vi z :: st) σ Q) := u_iload_n d65_13
theorem d65_14 : decode (mB 65) 14 = .ok (.ifCond .ne 5, 3) := by decide +kernel
theorem u65_14 {d : Nat} {ls : Lo} {st : List Va} {σ : Sg} {Q : Rs → Sg → Prop} {a : Int} (h : -2147483648 ≤ a ∧ a ≤ 2147483647) : Wx d 65 14 ls (vi a :: st) σ Q ↔ if ¬ a = 0 then Wx d 65 19 ls st σ Q else Wx d 65 17 ls st σ Q := u_ifne d65_14 (by decide) h
theorem d65_17 : decode (mB 65) 17 = .ok (.iload_n 3, 1) := by decide +kernel
theorem u65_17 {d : Nat} {ls : Lo} {st : List Va} {σ : Sg} {Q : Rs → Sg → Prop} : Wx d 65 17 ls st σ Q ↔ Li (lget ls 3) (fun z => Wx d 65 18 ls (vi z :: st) σ Q) := u_iload_n d65_17
theorem d65_18 : decode (mB 65) 18 = .ok (.ireturn, 1) := by decide +kernel
theorem u65_18 {d : Nat} {ls : Lo} {σ : Sg} {Q : Rs → Sg → Prop} {z : Int} : Wx d 65 18 ls [vi z] σ Q ↔ Q (.inl (some (vi z))) σ := u_iret d65_18 rfl
theorem d65_19 : decode (mB 65) 19 = .ok (.aload_n 0, 1) := by decide +kernel
theorem u65_19 {d : Nat} {ls : Lo} {st : List Va} {σ : Sg} {Q : Rs → Sg → Prop} : Wx d 65 19 ls st σ Q ↔ Lr (lget ls 0) (fun z => Wx d 65 20 ls (.inr (.inl z) :: st) σ Q) := u_aload_n d65_19
theorem d65_20 : decode (mB 65) 20 = .ok (.getfield 12, 3) := by decide +kernel
theorem u65_20 {d : Nat} {ls : Lo} {st : List Va} {σ : Sg} {Q : Rs → Sg → Prop} {g j : Nat} : Wx d 65 20 ls (vr g j :: st) σ Q ↔ isO g j 5 ∧ Wx d 65 23 ls (fvv σ g j 0 :: st) σ Q := u_get (w := (5, 0)) d65_20 rfl
theorem d65_23 : decode (mB 65) 23 = .ok (.aload_n 1, 1) := by decide +kernel
theorem u65_23 {d : Nat} {ls : Lo} {st : List Va} {σ : Sg} {Q : Rs → Sg → Prop} : Wx d 65 23 ls st σ Q ↔ Lr (lget ls 1) (fun z => Wx d 65 24 ls (.inr (.inl z) :: st) σ Q) := u_aload_n d65_23
theorem d65_24 : decode (mB 65) 24 = .ok (.iload_n 2, 1) := by decide +kernel
theorem u65_24 {d : Nat} {ls : Lo} {st : List Va} {σ : Sg} {Q : Rs → Sg → Prop} : Wx d 65 24 ls st σ Q ↔ Li (lget ls 2) (fun z => Wx d 65 25 ls (vi z :: st) σ Q) := u_iload_n d65_24
theorem d65_25 : decode (mB 65) 25 = .ok (.iconst 1, 1) := by decide +kernel
theorem u65_25 {d : Nat} {ls : Lo} {st : List Va} {σ : Sg} {Q : Rs → Sg → Prop} : Wx d 65 25 ls st σ Q ↔ Wx d 65 26 ls (vi 1 :: st) σ Q := u_iconst d65_25
theorem d65_26 : decode (mB 65) 26 = .ok (.isub, 1) := by decide +kernel
theorem u65_26 {d : Nat} {ls : Lo} {st : List Va} {σ : Sg} {Q : Rs → Sg → Prop} {a b : Int} : Wx d 65 26 ls (vi b :: vi a :: st) σ Q ↔ Wx d 65 27 ls (vi (a - b) :: st) σ Q := u_isub d65_26
theorem d65_27 : decode (mB 65) 27 = .ok (.aaload, 1) := by decide +kernel
theorem u65_27 {d : Nat} {ls : Lo} {st : List Va} {σ : Sg} {Q : Rs → Sg → Prop} {z : Int} {g j : Nat} : Wx d 65 27 ls (vi z :: vr g j :: st) σ Q ↔ (isA g j 2 z ∨ isA g j 3 z) ∧ On (rf g j z.toNat) (fun w => Wx d 65 28 ls (.inr (.inl w) :: st) σ Q) := u_aald d65_27
theorem d65_28 : decode (mB 65) 28 = .ok (.aload_n 0, 1) := by decide +kernel
theorem u65_28 {d : Nat} {ls : Lo} {st : List Va} {σ : Sg} {Q : Rs → Sg → Prop} : Wx d 65 28 ls st σ Q ↔ Lr (lget ls 0) (fun z => Wx d 65 29 ls (.inr (.inl z) :: st) σ Q) := u_aload_n d65_28
theorem d65_29 : decode (mB 65) 29 = .ok (.getfield 35, 3) := by decide +kernel
theorem u65_29 {d : Nat} {ls : Lo} {st : List Va} {σ : Sg} {Q : Rs → Sg → Prop} {g j : Nat} : Wx d 65 29 ls (vr g j :: st) σ Q ↔ isO g j 5 ∧ Wx d 65 32 ls (fvv σ g j 5 :: st) σ Q := u_get (w := (5, 5)) d65_29 rfl
theorem d65_32 : decode (mB 65) 32 = .ok (.iload_n 2, 1) := by decide +kernel
theorem u65_32 {d : Nat} {ls : Lo} {st : List Va} {σ : Sg} {Q : Rs → Sg → Prop} : Wx d 65 32 ls st σ Q ↔ Li (lget ls 2) (fun z => Wx d 65 33 ls (vi z :: st) σ Q) := u_iload_n d65_32
theorem d65_33 : decode (mB 65) 33 = .ok (.iconst 1, 1) := by decide +kernel
theorem u65_33 {d : Nat} {ls : Lo} {st : List Va} {σ : Sg} {Q : Rs → Sg → Prop} : Wx d 65 33 ls st σ Q ↔ Wx d 65 34 ls (vi 1 :: st) σ Q := u_iconst d65_33
theorem d65_34 : decode (mB 65) 34 = .ok (.isub, 1) := by decide +kernel
theorem u65_34 {d : Nat} {ls : Lo} {st : List Va} {σ : Sg} {Q : Rs → Sg → Prop} {a b : Int} : Wx d 65 34 ls (vi b :: vi a :: st) σ Q ↔ Wx d 65 35 ls (vi (a - b) :: st) σ Q := u_isub d65_34
theorem d65_35 : decode (mB 65) 35 = .ok (.iaload, 1) := by decide +kernel
theorem u65_35 {d : Nat} {ls : Lo} {st : List Va} {σ : Sg} {Q : Rs → Sg → Prop} {z : Int} {g j : Nat} : Wx d 65 35 ls (vi z :: vr g j :: st) σ Q ↔ On (ial σ g j z) (fun x => Wx d 65 36 ls (vi x :: st) σ Q) := u_iald d65_35
theorem d65_36 : decode (mB 65) 36 = .ok (.invokevirtual 62, 3) := by decide +kernel
theorem u65_36 {d : Nat} {ls : Lo} {st : List Va} {σ : Sg} {Q : Rs → Sg → Prop} {g j : Nat} {a1 a2 : Va} : Wx (d + 1) 65 36 ls (a2 :: a1 :: vr g j :: st) σ Q ↔ (isO g j 4 ∧ st.length ≤ 4 ∧ nlg [a2, a1] = true) ∧ Wm d 47 [vr g j, a1, a2] σ (Kc (d + 1) 65 39 ls st Q) := u_inv2 d65_36 rfl rfl rfl
theorem d65_39 : decode (mB 65) 39 = .ok (.aload_n 0, 1) := by decide +kernel
theorem u65_39 {d : Nat} {ls : Lo} {st : List Va} {σ : Sg} {Q : Rs → Sg → Prop} : Wx d 65 39 ls st σ Q ↔ Lr (lget ls 0) (fun z => Wx d 65 40 ls (.inr (.inl z) :: st) σ Q) := u_aload_n d65_39
theorem d65_40 : decode (mB 65) 40 = .ok (.getfield 12, 3) := by decide +kernel
theorem u65_40 {d : Nat} {ls : Lo} {st : List Va} {σ : Sg} {Q : Rs → Sg → Prop} {g j : Nat} : Wx d 65 40 ls (vr g j :: st) σ Q ↔ isO g j 5 ∧ Wx d 65 43 ls (fvv σ g j 0 :: st) σ Q := u_get (w := (5, 0)) d65_40 rfl
theorem d65_43 : decode (mB 65) 43 = .ok (.aload_n 1, 1) := by decide +kernel
theorem u65_43 {d : Nat} {ls : Lo} {st : List Va} {σ : Sg} {Q : Rs → Sg → Prop} : Wx d 65 43 ls st σ Q ↔ Lr (lget ls 1) (fun z => Wx d 65 44 ls (.inr (.inl z) :: st) σ Q) := u_aload_n d65_43
theorem d65_44 : decode (mB 65) 44 = .ok (.iload_n 2, 1) := by decide +kernel
theorem u65_44 {d : Nat} {ls : Lo} {st : List Va} {σ : Sg} {Q : Rs → Sg → Prop} : Wx d 65 44 ls st σ Q ↔ Li (lget ls 2) (fun z => Wx d 65 45 ls (vi z :: st) σ Q) := u_iload_n d65_44
theorem d65_45 : decode (mB 65) 45 = .ok (.aaload, 1) := by decide +kernel
theorem u65_45 {d : Nat} {ls : Lo} {st : List Va} {σ : Sg} {Q : Rs → Sg → Prop} {z : Int} {g j : Nat} : Wx d 65 45 ls (vi z :: vr g j :: st) σ Q ↔ (isA g j 2 z ∨ isA g j 3 z) ∧ On (rf g j z.toNat) (fun w => Wx d 65 46 ls (.inr (.inl w) :: st) σ Q) := u_aald d65_45
theorem d65_46 : decode (mB 65) 46 = .ok (.aload_n 0, 1) := by decide +kernel
theorem u65_46 {d : Nat} {ls : Lo} {st : List Va} {σ : Sg} {Q : Rs → Sg → Prop} : Wx d 65 46 ls st σ Q ↔ Lr (lget ls 0) (fun z => Wx d 65 47 ls (.inr (.inl z) :: st) σ Q) := u_aload_n d65_46
theorem d65_47 : decode (mB 65) 47 = .ok (.getfield 35, 3) := by decide +kernel
theorem u65_47 {d : Nat} {ls : Lo} {st : List Va} {σ : Sg} {Q : Rs → Sg → Prop} {g j : Nat} : Wx d 65 47 ls (vr g j :: st) σ Q ↔ isO g j 5 ∧ Wx d 65 50 ls (fvv σ g j 5 :: st) σ Q := u_get (w := (5, 5)) d65_47 rfl
theorem d65_50 : decode (mB 65) 50 = .ok (.iload_n 2, 1) := by decide +kernel
theorem u65_50 {d : Nat} {ls : Lo} {st : List Va} {σ : Sg} {Q : Rs → Sg → Prop} : Wx d 65 50 ls st σ Q ↔ Li (lget ls 2) (fun z => Wx d 65 51 ls (vi z :: st) σ Q) := u_iload_n d65_50
theorem d65_51 : decode (mB 65) 51 = .ok (.iaload, 1) := by decide +kernel
theorem u65_51 {d : Nat} {ls : Lo} {st : List Va} {σ : Sg} {Q : Rs → Sg → Prop} {z : Int} {g j : Nat} : Wx d 65 51 ls (vi z :: vr g j :: st) σ Q ↔ On (ial σ g j z) (fun x => Wx d 65 52 ls (vi x :: st) σ Q) := u_iald d65_51
theorem d65_52 : decode (mB 65) 52 = .ok (.invokevirtual 66, 3) := by decide +kernel
theorem u65_52 {d : Nat} {ls : Lo} {st : List Va} {σ : Sg} {Q : Rs → Sg → Prop} {g j : Nat} {a1 a2 : Va} : Wx (d + 1) 65 52 ls (a2 :: a1 :: vr g j :: st) σ Q ↔ (isO g j 4 ∧ st.length ≤ 4 ∧ nlg [a2, a1] = true) ∧ Wm d 48 [vr g j, a1, a2] σ (Kc (d + 1) 65 55 ls st Q) := u_inv2 d65_52 rfl rfl rfl
theorem d65_55 : decode (mB 65) 55 = .ok (.iload_n 3, 1) := by decide +kernel
theorem u65_55 {d : Nat} {ls : Lo} {st : List Va} {σ : Sg} {Q : Rs → Sg → Prop} : Wx d 65 55 ls st σ Q ↔ Li (lget ls 3) (fun z => Wx d 65 56 ls (vi z :: st) σ Q) := u_iload_n d65_55
theorem d65_56 : decode (mB 65) 56 = .ok (.aload_n 0, 1) := by decide +kernel
theorem u65_56 {d : Nat} {ls : Lo} {st : List Va} {σ : Sg} {Q : Rs → Sg → Prop} : Wx d 65 56 ls st σ Q ↔ Lr (lget ls 0) (fun z => Wx d 65 57 ls (.inr (.inl z) :: st) σ Q) := u_aload_n d65_56
theorem d65_57 : decode (mB 65) 57 = .ok (.getfield 12, 3) := by decide +kernel
theorem u65_57 {d : Nat} {ls : Lo} {st : List Va} {σ : Sg} {Q : Rs → Sg → Prop} {g j : Nat} : Wx d 65 57 ls (vr g j :: st) σ Q ↔ isO g j 5 ∧ Wx d 65 60 ls (fvv σ g j 0 :: st) σ Q := u_get (w := (5, 0)) d65_57 rfl
theorem d65_60 : decode (mB 65) 60 = .ok (.invokevirtual 69, 3) := by decide +kernel
theorem u65_60 {d : Nat} {ls : Lo} {st : List Va} {σ : Sg} {Q : Rs → Sg → Prop} {g j : Nat} : Wx (d + 1) 65 60 ls (vr g j :: st) σ Q ↔ (isO g j 4 ∧ st.length ≤ 4 ∧ nlg [] = true) ∧ Wm d 49 [vr g j] σ (Kc (d + 1) 65 63 ls st Q) := u_inv0 d65_60 rfl rfl rfl
theorem d65_63 : decode (mB 65) 63 = .ok (.iadd, 1) := by decide +kernel
theorem u65_63 {d : Nat} {ls : Lo} {st : List Va} {σ : Sg} {Q : Rs → Sg → Prop} {a b : Int} : Wx d 65 63 ls (vi b :: vi a :: st) σ Q ↔ Wx d 65 64 ls (vi (a + b) :: st) σ Q := u_iadd d65_63
theorem d65_64 : decode (mB 65) 64 = .ok (.ireturn, 1) := by decide +kernel
theorem u65_64 {d : Nat} {ls : Lo} {σ : Sg} {Q : Rs → Sg → Prop} {z : Int} : Wx d 65 64 ls [vi z] σ Q ↔ Q (.inl (some (vi z))) σ := u_iret d65_64 rfl
