/-! 0: FiguredBass.key(IZ)V -/
theorem d0_0 : decode (mB 0) 0 = .ok (.iload_n 1, 1) := by decide +kernel
theorem u0_0 {d : Nat} {ls : Lo} {st : List Va} {σ : Sg} {Q : Rs → Sg → Prop} : Wx d 0 0 ls st σ Q ↔ Li (lget ls 1) (fun z => Wx d 0 1 ls (vi z :: st) σ Q) := u_iload_n d0_0
theorem d0_1 : decode (mB 0) 1 = .ok (.bipush (-7), 2) := by decide +kernel
theorem u0_1 {d : Nat} {ls : Lo} {st : List Va} {σ : Sg} {Q : Rs → Sg → Prop} : Wx d 0 1 ls st σ Q ↔ Wx d 0 3 ls (vi (-7) :: st) σ Q := u_bipush d0_1 (by decide)
theorem d0_3 : decode (mB 0) 3 = .ok (.if_icmp .lt 9, 3) := by decide +kernel
theorem u0_3 {d : Nat} {ls : Lo} {st : List Va} {σ : Sg} {Q : Rs → Sg → Prop} {a b : Int} (h : -2147483648 ≤ a ∧ a ≤ 2147483647) (h2 : -2147483648 ≤ b ∧ b ≤ 2147483647) : Wx d 0 3 ls (vi b :: vi a :: st) σ Q ↔ if a < b then Wx d 0 12 ls st σ Q else Wx d 0 6 ls st σ Q := u_iclt d0_3 (by decide) h h2
theorem d0_6 : decode (mB 0) 6 = .ok (.iload_n 1, 1) := by decide +kernel
theorem u0_6 {d : Nat} {ls : Lo} {st : List Va} {σ : Sg} {Q : Rs → Sg → Prop} : Wx d 0 6 ls st σ Q ↔ Li (lget ls 1) (fun z => Wx d 0 7 ls (vi z :: st) σ Q) := u_iload_n d0_6
theorem d0_7 : decode (mB 0) 7 = .ok (.bipush 7, 2) := by decide +kernel
theorem u0_7 {d : Nat} {ls : Lo} {st : List Va} {σ : Sg} {Q : Rs → Sg → Prop} : Wx d 0 7 ls st σ Q ↔ Wx d 0 9 ls (vi 7 :: st) σ Q := u_bipush d0_7 (by decide)
theorem d0_9 : decode (mB 0) 9 = .ok (.if_icmp .le 13, 3) := by decide +kernel
theorem u0_9 {d : Nat} {ls : Lo} {st : List Va} {σ : Sg} {Q : Rs → Sg → Prop} {a b : Int} (h : -2147483648 ≤ a ∧ a ≤ 2147483647) (h2 : -2147483648 ≤ b ∧ b ≤ 2147483647) : Wx d 0 9 ls (vi b :: vi a :: st) σ Q ↔ if a ≤ b then Wx d 0 22 ls st σ Q else Wx d 0 12 ls st σ Q := u_icle d0_9 (by decide) h h2
theorem d0_12 : decode (mB 0) 12 = .ok (.new 41, 3) := by decide +kernel
theorem u0_12 {d : Nat} {ls : Lo} {σ : Sg} {Q : Rs → Sg → Prop} : Wx d 0 12 ls [] σ Q ↔ Q (.inr 1) σ := u_throw d0_12 rfl
theorem d0_15 : decode (mB 0) 15 = .ok (.dup, 1) := by decide +kernel
theorem u0_15i {d : Nat} {ls : Lo} {st : List Va} {σ : Sg} {Q : Rs → Sg → Prop} {a : Int} : Wx d 0 15 ls (vi a :: st) σ Q ↔ Wx d 0 16 ls (vi a :: vi a :: st) σ Q := u_dupi d0_15
theorem u0_15r {d : Nat} {ls : Lo} {st : List Va} {σ : Sg} {Q : Rs → Sg → Prop} {g j : Nat} : Wx d 0 15 ls (vr g j :: st) σ Q ↔ Wx d 0 16 ls (vr g j :: vr g j :: st) σ Q := u_dupr d0_15
theorem d0_16 : decode (mB 0) 16 = .ok (.ldc 43, 2) := by decide +kernel
theorem d0_18 : decode (mB 0) 18 = .ok (.invokespecial 45, 3) := by decide +kernel
theorem d0_21 : decode (mB 0) 21 = .ok (.athrow, 1) := by decide +kernel
theorem d0_22 : decode (mB 0) 22 = .ok (.aload_n 0, 1) := by decide +kernel
theorem u0_22 {d : Nat} {ls : Lo} {st : List Va} {σ : Sg} {Q : Rs → Sg → Prop} : Wx d 0 22 ls st σ Q ↔ Lr (lget ls 0) (fun z => Wx d 0 23 ls (.inr (.inl z) :: st) σ Q) := u_aload_n d0_22
theorem d0_23 : decode (mB 0) 23 = .ok (.getfield 10, 3) := by decide +kernel
theorem u0_23 {d : Nat} {ls : Lo} {st : List Va} {σ : Sg} {Q : Rs → Sg → Prop} {g j : Nat} : Wx d 0 23 ls (vr g j :: st) σ Q ↔ isO g j 0 ∧ Wx d 0 26 ls (fvv σ g j 0 :: st) σ Q := u_get (w := (0, 0)) d0_23 rfl
theorem d0_26 : decode (mB 0) 26 = .ok (.iload_n 1, 1) := by decide +kernel
theorem u0_26 {d : Nat} {ls : Lo} {st : List Va} {σ : Sg} {Q : Rs → Sg → Prop} : Wx d 0 26 ls st σ Q ↔ Li (lget ls 1) (fun z => Wx d 0 27 ls (vi z :: st) σ Q) := u_iload_n d0_26
theorem d0_27 : decode (mB 0) 27 = .ok (.iload_n 2, 1) := by decide +kernel
theorem u0_27 {d : Nat} {ls : Lo} {st : List Va} {σ : Sg} {Q : Rs → Sg → Prop} : Wx d 0 27 ls st σ Q ↔ Li (lget ls 2) (fun z => Wx d 0 28 ls (vi z :: st) σ Q) := u_iload_n d0_27
theorem d0_28 : decode (mB 0) 28 = .ok (.invokevirtual 48, 3) := by decide +kernel
theorem u0_28 {d : Nat} {ls : Lo} {st : List Va} {σ : Sg} {Q : Rs → Sg → Prop} {g j : Nat} {a1 a2 : Va} : Wx (d + 1) 0 28 ls (a2 :: a1 :: vr g j :: st) σ Q ↔ (isO g j 1 ∧ st.length ≤ 4 ∧ nlg [a2, a1] = true) ∧ Wm d 18 [vr g j, a1, a2] σ (Kc (d + 1) 0 31 ls st Q) := u_inv2 d0_28 rfl rfl rfl
theorem d0_31 : decode (mB 0) 31 = .ok (.iconst 0, 1) := by decide +kernel
theorem u0_31 {d : Nat} {ls : Lo} {st : List Va} {σ : Sg} {Q : Rs → Sg → Prop} : Wx d 0 31 ls st σ Q ↔ Wx d 0 32 ls (vi 0 :: st) σ Q := u_iconst d0_31
theorem d0_32 : decode (mB 0) 32 = .ok (.istore_n 3, 1) := by decide +kernel
theorem u0_32 {d : Nat} {ls : Lo} {st : List Va} {σ : Sg} {Q : Rs → Sg → Prop} {z : Int} : Wx d 0 32 ls (vi z :: st) σ Q ↔ Wx d 0 33 (lset ls 3 (vi z)) st σ Q := u_istore_n d0_32 (by decide)
theorem d0_33 : decode (mB 0) 33 = .ok (.iload_n 3, 1) := by decide +kernel
theorem u0_33 {d : Nat} {ls : Lo} {st : List Va} {σ : Sg} {Q : Rs → Sg → Prop} : Wx d 0 33 ls st σ Q ↔ Li (lget ls 3) (fun z => Wx d 0 34 ls (vi z :: st) σ Q) := u_iload_n d0_33
theorem d0_34 : decode (mB 0) 34 = .ok (.bipush 8, 2) := by decide +kernel
theorem u0_34 {d : Nat} {ls : Lo} {st : List Va} {σ : Sg} {Q : Rs → Sg → Prop} : Wx d 0 34 ls st σ Q ↔ Wx d 0 36 ls (vi 8 :: st) σ Q := u_bipush d0_34 (by decide)
theorem d0_36 : decode (mB 0) 36 = .ok (.if_icmp .ge 22, 3) := by decide +kernel
theorem u0_36 {d : Nat} {ls : Lo} {st : List Va} {σ : Sg} {Q : Rs → Sg → Prop} {a b : Int} (h : -2147483648 ≤ a ∧ a ≤ 2147483647) (h2 : -2147483648 ≤ b ∧ b ≤ 2147483647) : Wx d 0 36 ls (vi b :: vi a :: st) σ Q ↔ if b ≤ a then Wx d 0 58 ls st σ Q else Wx d 0 39 ls st σ Q := u_icge d0_36 (by decide) h h2
theorem d0_39 : decode (mB 0) 39 = .ok (.aload_n 0, 1) := by decide +kernel
theorem u0_39 {d : Nat} {ls : Lo} {st : List Va} {σ : Sg} {Q : Rs → Sg → Prop} : Wx d 0 39 ls st σ Q ↔ Lr (lget ls 0) (fun z => Wx d 0 40 ls (.inr (.inl z) :: st) σ Q) := u_aload_n d0_39
theorem d0_40 : decode (mB 0) 40 = .ok (.getfield 18, 3) := by decide +kernel
theorem u0_40 {d : Nat} {ls : Lo} {st : List Va} {σ : Sg} {Q : Rs → Sg → Prop} {g j : Nat} : Wx d 0 40 ls (vr g j :: st) σ Q ↔ isO g j 0 ∧ Wx d 0 43 ls (fvv σ g j 1 :: st) σ Q := u_get (w := (0, 1)) d0_40 rfl
theorem d0_43 : decode (mB 0) 43 = .ok (.iload_n 3, 1) := by decide +kernel
theorem u0_43 {d : Nat} {ls : Lo} {st : List Va} {σ : Sg} {Q : Rs → Sg → Prop} : Wx d 0 43 ls st σ Q ↔ Li (lget ls 3) (fun z => Wx d 0 44 ls (vi z :: st) σ Q) := u_iload_n d0_43
theorem d0_44 : decode (mB 0) 44 = .ok (.aaload, 1) := by decide +kernel
theorem u0_44 {d : Nat} {ls : Lo} {st : List Va} {σ : Sg} {Q : Rs → Sg → Prop} {z : Int} {g j : Nat} : Wx d 0 44 ls (vi z :: vr g j :: st) σ Q ↔ (isA g j 2 z ∨ isA g j 3 z) ∧ On (rf g j z.toNat) (fun w => Wx d 0 45 ls (.inr (.inl w) :: st) σ Q) := u_aald d0_44
theorem d0_45 : decode (mB 0) 45 = .ok (.aload_n 0, 1) := by decide +kernel
theorem u0_45 {d : Nat} {ls : Lo} {st : List Va} {σ : Sg} {Q : Rs → Sg → Prop} : Wx d 0 45 ls st σ Q ↔ Lr (lget ls 0) (fun z => Wx d 0 46 ls (.inr (.inl z) :: st) σ Q) := u_aload_n d0_45
theorem d0_46 : decode (mB 0) 46 = .ok (.getfield 10, 3) := by decide +kernel
theorem u0_46 {d : Nat} {ls : Lo} {st : List Va} {σ : Sg} {Q : Rs → Sg → Prop} {g j : Nat} : Wx d 0 46 ls (vr g j :: st) σ Q ↔ isO g j 0 ∧ Wx d 0 49 ls (fvv σ g j 0 :: st) σ Q := u_get (w := (0, 0)) d0_46 rfl
theorem d0_49 : decode (mB 0) 49 = .ok (.invokevirtual 52, 3) := by decide +kernel
theorem u0_49 {d : Nat} {ls : Lo} {st : List Va} {σ : Sg} {Q : Rs → Sg → Prop} {g j : Nat} {a1 : Va} : Wx (d + 1) 0 49 ls (a1 :: vr g j :: st) σ Q ↔ (isO g j 3 ∧ st.length ≤ 4 ∧ nlg [a1] = true) ∧ Wm d 31 [vr g j, a1] σ (Kc (d + 1) 0 52 ls st Q) := u_inv1 d0_49 rfl rfl rfl
theorem d0_52 : decode (mB 0) 52 = .ok (.iinc 3 1, 3) := by decide +kernel
theorem u0_52 {d : Nat} {ls : Lo} {st : List Va} {σ : Sg} {Q : Rs → Sg → Prop} : Wx d 0 52 ls st σ Q ↔ Li (lget ls 3) (fun z => Wx d 0 55 (lset ls 3 (vi (z + 1))) st σ Q) := u_iinc d0_52 (by decide)
theorem d0_55 : decode (mB 0) 55 = .ok (.goto (-22), 3) := by decide +kernel
theorem u0_55 {d : Nat} {ls : Lo} {st : List Va} {σ : Sg} {Q : Rs → Sg → Prop} : Wx d 0 55 ls st σ Q ↔ Wx d 0 33 ls st σ Q := u_goto d0_55 (by decide)
theorem d0_58 : decode (mB 0) 58 = .ok (.aload_n 0, 1) := by decide +kernel
theorem u0_58 {d : Nat} {ls : Lo} {st : List Va} {σ : Sg} {Q : Rs → Sg → Prop} : Wx d 0 58 ls st σ Q ↔ Lr (lget ls 0) (fun z => Wx d 0 59 ls (.inr (.inl z) :: st) σ Q) := u_aload_n d0_58
theorem d0_59 : decode (mB 0) 59 = .ok (.getfield 25, 3) := by decide +kernel
theorem u0_59 {d : Nat} {ls : Lo} {st : List Va} {σ : Sg} {Q : Rs → Sg → Prop} {g j : Nat} : Wx d 0 59 ls (vr g j :: st) σ Q ↔ isO g j 0 ∧ Wx d 0 62 ls (fvv σ g j 2 :: st) σ Q := u_get (w := (0, 2)) d0_59 rfl
theorem d0_62 : decode (mB 0) 62 = .ok (.invokevirtual 56, 3) := by decide +kernel
theorem u0_62 {d : Nat} {ls : Lo} {st : List Va} {σ : Sg} {Q : Rs → Sg → Prop} {g j : Nat} : Wx (d + 1) 0 62 ls (vr g j :: st) σ Q ↔ (isO g j 5 ∧ st.length ≤ 4 ∧ nlg [] = true) ∧ Wm d 55 [vr g j] σ (Kc (d + 1) 0 65 ls st Q) := u_inv0 d0_62 rfl rfl rfl
theorem d0_65 : decode (mB 0) 65 = .ok (.return_, 1) := by decide +kernel
theorem u0_65 {d : Nat} {ls : Lo} {σ : Sg} {Q : Rs → Sg → Prop} : Wx d 0 65 ls [] σ Q ↔ Q (.inl none) σ := u_vret d0_65 rfl
/-! 1: FiguredBass.length(I)V -/
theorem d1_0 : decode (mB 1) 0 = .ok (.iload_n 1, 1) := by decide +kernel
theorem u1_0 {d : Nat} {ls : Lo} {st : List Va} {σ : Sg} {Q : Rs → Sg → Prop} : Wx d 1 0 ls st σ Q ↔ Li (lget ls 1) (fun z => Wx d 1 1 ls (vi z :: st) σ Q) := u_iload_n d1_0
theorem d1_1 : decode (mB 1) 1 = .ok (.iconst 1, 1) := by decide +kernel
theorem u1_1 {d : Nat} {ls : Lo} {st : List Va} {σ : Sg} {Q : Rs → Sg → Prop} : Wx d 1 1 ls st σ Q ↔ Wx d 1 2 ls (vi 1 :: st) σ Q := u_iconst d1_1
theorem d1_2 : decode (mB 1) 2 = .ok (.if_icmp .lt 9, 3) := by decide +kernel
theorem u1_2 {d : Nat} {ls : Lo} {st : List Va} {σ : Sg} {Q : Rs → Sg → Prop} {a b : Int} (h : -2147483648 ≤ a ∧ a ≤ 2147483647) (h2 : -2147483648 ≤ b ∧ b ≤ 2147483647) : Wx d 1 2 ls (vi b :: vi a :: st) σ Q ↔ if a < b then Wx d 1 11 ls st σ Q else Wx d 1 5 ls st σ Q := u_iclt d1_2 (by decide) h h2
theorem d1_5 : decode (mB 1) 5 = .ok (.iload_n 1, 1) := by decide +kernel
theorem u1_5 {d : Nat} {ls : Lo} {st : List Va} {σ : Sg} {Q : Rs → Sg → Prop} : Wx d 1 5 ls st σ Q ↔ Li (lget ls 1) (fun z => Wx d 1 6 ls (vi z :: st) σ Q) := u_iload_n d1_5
theorem d1_6 : decode (mB 1) 6 = .ok (.bipush 8, 2) := by decide +kernel
theorem u1_6 {d : Nat} {ls : Lo} {st : List Va} {σ : Sg} {Q : Rs → Sg → Prop} : Wx d 1 6 ls st σ Q ↔ Wx d 1 8 ls (vi 8 :: st) σ Q := u_bipush d1_6 (by decide)
theorem d1_8 : decode (mB 1) 8 = .ok (.if_icmp .le 13, 3) := by decide +kernel
theorem u1_8 {d : Nat} {ls : Lo} {st : List Va} {σ : Sg} {Q : Rs → Sg → Prop} {a b : Int} (h : -2147483648 ≤ a ∧ a ≤ 2147483647) (h2 : -2147483648 ≤ b ∧ b ≤ 2147483647) : Wx d 1 8 ls (vi b :: vi a :: st) σ Q ↔ if a ≤ b then Wx d 1 21 ls st σ Q else Wx d 1 11 ls st σ Q := u_icle d1_8 (by decide) h h2
theorem d1_11 : decode (mB 1) 11 = .ok (.new 41, 3) := by decide +kernel
theorem u1_11 {d : Nat} {ls : Lo} {σ : Sg} {Q : Rs → Sg → Prop} : Wx d 1 11 ls [] σ Q ↔ Q (.inr 1) σ := u_throw d1_11 rfl
theorem d1_14 : decode (mB 1) 14 = .ok (.dup, 1) := by decide +kernel
theorem u1_14i {d : Nat} {ls : Lo} {st : List Va} {σ : Sg} {Q : Rs → Sg → Prop} {a : Int} : Wx d 1 14 ls (vi a :: st) σ Q ↔ Wx d 1 15 ls (vi a :: vi a :: st) σ Q := u_dupi d1_14
theorem u1_14r {d : Nat} {ls : Lo} {st : List Va} {σ : Sg} {Q : Rs → Sg → Prop} {g j : Nat} : Wx d 1 14 ls (vr g j :: st) σ Q ↔ Wx d 1 15 ls (vr g j :: vr g j :: st) σ Q := u_dupr d1_14
theorem d1_15 : decode (mB 1) 15 = .ok (.ldc 59, 2) := by decide +kernel
theorem d1_17 : decode (mB 1) 17 = .ok (.invokespecial 45, 3) := by decide +kernel
theorem d1_20 : decode (mB 1) 20 = .ok (.athrow, 1) := by decide +kernel
theorem d1_21 : decode (mB 1) 21 = .ok (.aload_n 0, 1) := by decide +kernel
theorem u1_21 {d : Nat} {ls : Lo} {st : List Va} {σ : Sg} {Q : Rs → Sg → Prop} : Wx d 1 21 ls st σ Q ↔ Lr (lget ls 0) (fun z => Wx d 1 22 ls (.inr (.inl z) :: st) σ Q) := u_aload_n d1_21
theorem d1_22 : decode (mB 1) 22 = .ok (.iload_n 1, 1) := by decide +kernel
theorem u1_22 {d : Nat} {ls : Lo} {st : List Va} {σ : Sg} {Q : Rs → Sg → Prop} : Wx d 1 22 ls st σ Q ↔ Li (lget ls 1) (fun z => Wx d 1 23 ls (vi z :: st) σ Q) := u_iload_n d1_22
theorem d1_23 : decode (mB 1) 23 = .ok (.putfield 36, 3) := by decide +kernel
theorem u1_23 {d : Nat} {ls : Lo} {st : List Va} {σ : Sg} {Q : Rs → Sg → Prop} {z : Int} {g j : Nat} : Wx d 1 23 ls (vi z :: vr g j :: st) σ Q ↔ (isO g j 0 ∧ rf g j 4 = none) ∧ Wx d 1 26 ls st (up σ g j 4 z) Q := u_put (w := (0, 4)) d1_23 rfl rfl rfl
theorem d1_26 : decode (mB 1) 26 = .ok (.aload_n 0, 1) := by decide +kernel
theorem u1_26 {d : Nat} {ls : Lo} {st : List Va} {σ : Sg} {Q : Rs → Sg → Prop} : Wx d 1 26 ls st σ Q ↔ Lr (lget ls 0) (fun z => Wx d 1 27 ls (.inr (.inl z) :: st) σ Q) := u_aload_n d1_26
theorem d1_27 : decode (mB 1) 27 = .ok (.getfield 25, 3) := by decide +kernel
theorem u1_27 {d : Nat} {ls : Lo} {st : List Va} {σ : Sg} {Q : Rs → Sg → Prop} {g j : Nat} : Wx d 1 27 ls (vr g j :: st) σ Q ↔ isO g j 0 ∧ Wx d 1 30 ls (fvv σ g j 2 :: st) σ Q := u_get (w := (0, 2)) d1_27 rfl
theorem d1_30 : decode (mB 1) 30 = .ok (.invokevirtual 56, 3) := by decide +kernel
theorem u1_30 {d : Nat} {ls : Lo} {st : List Va} {σ : Sg} {Q : Rs → Sg → Prop} {g j : Nat} : Wx (d + 1) 1 30 ls (vr g j :: st) σ Q ↔ (isO g j 5 ∧ st.length ≤ 4 ∧ nlg [] = true) ∧ Wm d 55 [vr g j] σ (Kc (d + 1) 1 33 ls st Q) := u_inv0 d1_30 rfl rfl rfl
theorem d1_33 : decode (mB 1) 33 = .ok (.return_, 1) := by decide +kernel
theorem u1_33 {d : Nat} {ls : Lo} {σ : Sg} {Q : Rs → Sg → Prop} : Wx d 1 33 ls [] σ Q ↔ Q (.inl none) σ := u_vret d1_33 rfl
/-! 2: FiguredBass.bass(IIII)I -/
theorem d2_0 : decode (mB 2) 0 = .ok (.aload_n 0, 1) := by decide +kernel
theorem u2_0 {d : Nat} {ls : Lo} {st : List Va} {σ : Sg} {Q : Rs → Sg → Prop} : Wx d 2 0 ls st σ Q ↔ Lr (lget ls 0) (fun z => Wx d 2 1 ls (.inr (.inl z) :: st) σ Q) := u_aload_n d2_0
theorem d2_1 : decode (mB 2) 1 = .ok (.iload_n 1, 1) := by decide +kernel
theorem u2_1 {d : Nat} {ls : Lo} {st : List Va} {σ : Sg} {Q : Rs → Sg → Prop} : Wx d 2 1 ls st σ Q ↔ Li (lget ls 1) (fun z => Wx d 2 2 ls (vi z :: st) σ Q) := u_iload_n d2_1
theorem d2_2 : decode (mB 2) 2 = .ok (.bipush 8, 2) := by decide +kernel
theorem u2_2 {d : Nat} {ls : Lo} {st : List Va} {σ : Sg} {Q : Rs → Sg → Prop} : Wx d 2 2 ls st σ Q ↔ Wx d 2 4 ls (vi 8 :: st) σ Q := u_bipush d2_2 (by decide)
theorem d2_4 : decode (mB 2) 4 = .ok (.invokevirtual 61, 3) := by decide +kernel
theorem u2_4 {d : Nat} {ls : Lo} {st : List Va} {σ : Sg} {Q : Rs → Sg → Prop} {g j : Nat} {a1 a2 : Va} : Wx (d + 1) 2 4 ls (a2 :: a1 :: vr g j :: st) σ Q ↔ (isO g j 0 ∧ st.length ≤ 4 ∧ nlg [a2, a1] = true) ∧ Wm d 13 [vr g j, a1, a2] σ (Kc (d + 1) 2 7 ls st Q) := u_inv2 d2_4 rfl rfl rfl
theorem d2_7 : decode (mB 2) 7 = .ok (.iload_n 2, 1) := by decide +kernel
theorem u2_7 {d : Nat} {ls : Lo} {st : List Va} {σ : Sg} {Q : Rs → Sg → Prop} : Wx d 2 7 ls st σ Q ↔ Li (lget ls 2) (fun z => Wx d 2 8 ls (vi z :: st) σ Q) := u_iload_n d2_7
theorem d2_8 : decode (mB 2) 8 = .ok (.ifCond .lt 21, 3) := by decide +kernel
theorem u2_8 {d : Nat} {ls : Lo} {st : List Va} {σ : Sg} {Q : Rs → Sg → Prop} {a : Int} (h : -2147483648 ≤ a ∧ a ≤ 2147483647) : Wx d 2 8 ls (vi a :: st) σ Q ↔ if a < 0 then Wx d 2 29 ls st σ Q else Wx d 2 11 ls st σ Q := u_iflt d2_8 (by decide) h
theorem d2_11 : decode (mB 2) 11 = .ok (.iload_n 2, 1) := by decide +kernel
theorem u2_11 {d : Nat} {ls : Lo} {st : List Va} {σ : Sg} {Q : Rs → Sg → Prop} : Wx d 2 11 ls st σ Q ↔ Li (lget ls 2) (fun z => Wx d 2 12 ls (vi z :: st) σ Q) := u_iload_n d2_11
theorem d2_12 : decode (mB 2) 12 = .ok (.bipush 7, 2) := by decide +kernel
theorem u2_12 {d : Nat} {ls : Lo} {st : List Va} {σ : Sg} {Q : Rs → Sg → Prop} : Wx d 2 12 ls st σ Q ↔ Wx d 2 14 ls (vi 7 :: st) σ Q := u_bipush d2_12 (by decide)
theorem d2_14 : decode (mB 2) 14 = .ok (.if_icmp .ge 15, 3) := by decide +kernel
theorem u2_14 {d : Nat} {ls : Lo} {st : List Va} {σ : Sg} {Q : Rs → Sg → Prop} {a b : Int} (h : -2147483648 ≤ a ∧ a ≤ 2147483647) (h2 : -2147483648 ≤ b ∧ b ≤ 2147483647) : Wx d 2 14 ls (vi b :: vi a :: st) σ Q ↔ if b ≤ a then Wx d 2 29 ls st σ Q else Wx d 2 17 ls st σ Q := u_icge d2_14 (by decide) h h2
theorem d2_17 : decode (mB 2) 17 = .ok (.iload 4, 2) := by decide +kernel
theorem u2_17 {d : Nat} {ls : Lo} {st : List Va} {σ : Sg} {Q : Rs → Sg → Prop} : Wx d 2 17 ls st σ Q ↔ Li (lget ls 4) (fun z => Wx d 2 19 ls (vi z :: st) σ Q) := u_iload d2_17
theorem d2_19 : decode (mB 2) 19 = .ok (.iconst (-1), 1) := by decide +kernel
theorem u2_19 {d : Nat} {ls : Lo} {st : List Va} {σ : Sg} {Q : Rs → Sg → Prop} : Wx d 2 19 ls st σ Q ↔ Wx d 2 20 ls (vi (-1) :: st) σ Q := u_iconst d2_19
theorem d2_20 : decode (mB 2) 20 = .ok (.if_icmp .lt 9, 3) := by decide +kernel
theorem u2_20 {d : Nat} {ls : Lo} {st : List Va} {σ : Sg} {Q : Rs → Sg → Prop} {a b : Int} (h : -2147483648 ≤ a ∧ a ≤ 2147483647) (h2 : -2147483648 ≤ b ∧ b ≤ 2147483647) : Wx d 2 20 ls (vi b :: vi a :: st) σ Q ↔ if a < b then Wx d 2 29 ls st σ Q else Wx d 2 23 ls st σ Q := u_iclt d2_20 (by decide) h h2
theorem d2_23 : decode (mB 2) 23 = .ok (.iload 4, 2) := by decide +kernel
theorem u2_23 {d : Nat} {ls : Lo} {st : List Va} {σ : Sg} {Q : Rs → Sg → Prop} : Wx d 2 23 ls st σ Q ↔ Li (lget ls 4) (fun z => Wx d 2 25 ls (vi z :: st) σ Q) := u_iload d2_23
theorem d2_25 : decode (mB 2) 25 = .ok (.iconst 1, 1) := by decide +kernel
theorem u2_25 {d : Nat} {ls : Lo} {st : List Va} {σ : Sg} {Q : Rs → Sg → Prop} : Wx d 2 25 ls st σ Q ↔ Wx d 2 26 ls (vi 1 :: st) σ Q := u_iconst d2_25
theorem d2_26 : decode (mB 2) 26 = .ok (.if_icmp .le 13, 3) := by decide +kernel
theorem u2_26 {d : Nat} {ls : Lo} {st : List Va} {σ : Sg} {Q : Rs → Sg → Prop} {a b : Int} (h : -2147483648 ≤ a ∧ a ≤ 2147483647) (h2 : -2147483648 ≤ b ∧ b ≤ 2147483647) : Wx d 2 26 ls (vi b :: vi a :: st) σ Q ↔ if a ≤ b then Wx d 2 39 ls st σ Q else Wx d 2 29 ls st σ Q := u_icle d2_26 (by decide) h h2
theorem d2_29 : decode (mB 2) 29 = .ok (.new 41, 3) := by decide +kernel
theorem u2_29 {d : Nat} {ls : Lo} {σ : Sg} {Q : Rs → Sg → Prop} : Wx d 2 29 ls [] σ Q ↔ Q (.inr 1) σ := u_throw d2_29 rfl
theorem d2_32 : decode (mB 2) 32 = .ok (.dup, 1) := by decide +kernel
theorem u2_32i {d : Nat} {ls : Lo} {st : List Va} {σ : Sg} {Q : Rs → Sg → Prop} {a : Int} : Wx d 2 32 ls (vi a :: st) σ Q ↔ Wx d 2 33 ls (vi a :: vi a :: st) σ Q := u_dupi d2_32
theorem u2_32r {d : Nat} {ls : Lo} {st : List Va} {σ : Sg} {Q : Rs → Sg → Prop} {g j : Nat} : Wx d 2 32 ls (vr g j :: st) σ Q ↔ Wx d 2 33 ls (vr g j :: vr g j :: st) σ Q := u_dupr d2_32
theorem d2_33 : decode (mB 2) 33 = .ok (.ldc 65, 2) := by decide +kernel
theorem d2_35 : decode (mB 2) 35 = .ok (.invokespecial 45, 3) := by decide +kernel
theorem d2_38 : decode (mB 2) 38 = .ok (.athrow, 1) := by decide +kernel
theorem d2_39 : decode (mB 2) 39 = .ok (.ldc2_w 67, 3) := by decide +kernel
theorem u2_39 {d : Nat} {ls : Lo} {st : List Va} {σ : Sg} {Q : Rs → Sg → Prop} : Wx d 2 39 ls st σ Q ↔ Wx d 2 42 ls (vl 12 :: st) σ Q := u_ldc2 d2_39 rfl
theorem d2_42 : decode (mB 2) 42 = .ok (.iload_n 3, 1) := by decide +kernel
theorem u2_42 {d : Nat} {ls : Lo} {st : List Va} {σ : Sg} {Q : Rs → Sg → Prop} : Wx d 2 42 ls st σ Q ↔ Li (lget ls 3) (fun z => Wx d 2 43 ls (vi z :: st) σ Q) := u_iload_n d2_42
theorem d2_43 : decode (mB 2) 43 = .ok (.i2l, 1) := by decide +kernel
theorem u2_43 {d : Nat} {ls : Lo} {st : List Va} {σ : Sg} {Q : Rs → Sg → Prop} {a : Int} (h : -2147483648 ≤ a ∧ a ≤ 2147483647) : Wx d 2 43 ls (vi a :: st) σ Q ↔ Wx d 2 44 ls (vl a :: st) σ Q := u_i2l d2_43 h
theorem d2_44 : decode (mB 2) 44 = .ok (.lmul, 1) := by decide +kernel
theorem u2_44 {d : Nat} {ls : Lo} {st : List Va} {σ : Sg} {Q : Rs → Sg → Prop} {a b : Int} : Wx d 2 44 ls (vl b :: vl a :: st) σ Q ↔ Wx d 2 45 ls (vl (a * b) :: st) σ Q := u_lmul d2_44
theorem d2_45 : decode (mB 2) 45 = .ok (.getstatic 69, 3) := by decide +kernel
theorem u2_45 {d : Nat} {ls : Lo} {st : List Va} {σ : Sg} {Q : Rs → Sg → Prop} : Wx d 2 45 ls st σ Q ↔ Wx d 2 48 ls (vr 13 0 :: st) σ Q := u_gets d2_45 rfl
theorem d2_48 : decode (mB 2) 48 = .ok (.iload_n 2, 1) := by decide +kernel
theorem u2_48 {d : Nat} {ls : Lo} {st : List Va} {σ : Sg} {Q : Rs → Sg → Prop} : Wx d 2 48 ls st σ Q ↔ Li (lget ls 2) (fun z => Wx d 2 49 ls (vi z :: st) σ Q) := u_iload_n d2_48
theorem d2_49 : decode (mB 2) 49 = .ok (.iaload, 1) := by decide +kernel
theorem u2_49 {d : Nat} {ls : Lo} {st : List Va} {σ : Sg} {Q : Rs → Sg → Prop} {z : Int} {g j : Nat} : Wx d 2 49 ls (vi z :: vr g j :: st) σ Q ↔ On (ial σ g j z) (fun x => Wx d 2 50 ls (vi x :: st) σ Q) := u_iald d2_49
theorem d2_50 : decode (mB 2) 50 = .ok (.i2l, 1) := by decide +kernel
theorem u2_50 {d : Nat} {ls : Lo} {st : List Va} {σ : Sg} {Q : Rs → Sg → Prop} {a : Int} (h : -2147483648 ≤ a ∧ a ≤ 2147483647) : Wx d 2 50 ls (vi a :: st) σ Q ↔ Wx d 2 51 ls (vl a :: st) σ Q := u_i2l d2_50 h
theorem d2_51 : decode (mB 2) 51 = .ok (.ladd, 1) := by decide +kernel
theorem u2_51 {d : Nat} {ls : Lo} {st : List Va} {σ : Sg} {Q : Rs → Sg → Prop} {a b : Int} : Wx d 2 51 ls (vl b :: vl a :: st) σ Q ↔ Wx d 2 52 ls (vl (a + b) :: st) σ Q := u_ladd d2_51
theorem d2_52 : decode (mB 2) 52 = .ok (.iload 4, 2) := by decide +kernel
theorem u2_52 {d : Nat} {ls : Lo} {st : List Va} {σ : Sg} {Q : Rs → Sg → Prop} : Wx d 2 52 ls st σ Q ↔ Li (lget ls 4) (fun z => Wx d 2 54 ls (vi z :: st) σ Q) := u_iload d2_52
theorem d2_54 : decode (mB 2) 54 = .ok (.i2l, 1) := by decide +kernel
theorem u2_54 {d : Nat} {ls : Lo} {st : List Va} {σ : Sg} {Q : Rs → Sg → Prop} {a : Int} (h : -2147483648 ≤ a ∧ a ≤ 2147483647) : Wx d 2 54 ls (vi a :: st) σ Q ↔ Wx d 2 55 ls (vl a :: st) σ Q := u_i2l d2_54 h
theorem d2_55 : decode (mB 2) 55 = .ok (.ladd, 1) := by decide +kernel
theorem u2_55 {d : Nat} {ls : Lo} {st : List Va} {σ : Sg} {Q : Rs → Sg → Prop} {a b : Int} : Wx d 2 55 ls (vl b :: vl a :: st) σ Q ↔ Wx d 2 56 ls (vl (a + b) :: st) σ Q := u_ladd d2_55
theorem d2_56 : decode (mB 2) 56 = .ok (.lstore 5, 2) := by decide +kernel
theorem u2_56 {d : Nat} {ls : Lo} {st : List Va} {σ : Sg} {Q : Rs → Sg → Prop} {z : Int} : Wx d 2 56 ls (vl z :: st) σ Q ↔ Wx d 2 58 (lsetL ls 5 (vl z)) st σ Q := u_lstore d2_56 (by decide)
theorem d2_58 : decode (mB 2) 58 = .ok (.lload 5, 2) := by decide +kernel
theorem u2_58 {d : Nat} {ls : Lo} {st : List Va} {σ : Sg} {Q : Rs → Sg → Prop} : Wx d 2 58 ls st σ Q ↔ Ll (lget ls 5) (fun z => Wx d 2 60 ls (vl z :: st) σ Q) := u_lload d2_58
theorem d2_60 : decode (mB 2) 60 = .ok (.ldc2_w 73, 3) := by decide +kernel
theorem u2_60 {d : Nat} {ls : Lo} {st : List Va} {σ : Sg} {Q : Rs → Sg → Prop} : Wx d 2 60 ls st σ Q ↔ Wx d 2 63 ls (vl 36 :: st) σ Q := u_ldc2 d2_60 rfl
theorem d2_63 : decode (mB 2) 63 = .ok (.lcmp, 1) := by decide +kernel
theorem u2_63 {d : Nat} {ls : Lo} {st : List Va} {σ : Sg} {Q : Rs → Sg → Prop} {a b : Int} : Wx d 2 63 ls (vl b :: vl a :: st) σ Q ↔ Wx d 2 64 ls (vi (lg_cmp (i6 a) (i6 b)).toInt :: st) σ Q := u_lcmp d2_63
theorem d2_64 : decode (mB 2) 64 = .ok (.ifCond .lt 12, 3) := by decide +kernel
theorem u2_64 {d : Nat} {ls : Lo} {st : List Va} {σ : Sg} {Q : Rs → Sg → Prop} {a : Int} (h : -2147483648 ≤ a ∧ a ≤ 2147483647) : Wx d 2 64 ls (vi a :: st) σ Q ↔ if a < 0 then Wx d 2 76 ls st σ Q else Wx d 2 67 ls st σ Q := u_iflt d2_64 (by decide) h
theorem d2_67 : decode (mB 2) 67 = .ok (.lload 5, 2) := by decide +kernel
theorem u2_67 {d : Nat} {ls : Lo} {st : List Va} {σ : Sg} {Q : Rs → Sg → Prop} : Wx d 2 67 ls st σ Q ↔ Ll (lget ls 5) (fun z => Wx d 2 69 ls (vl z :: st) σ Q) := u_lload d2_67
theorem d2_69 : decode (mB 2) 69 = .ok (.ldc2_w 75, 3) := by decide +kernel
theorem u2_69 {d : Nat} {ls : Lo} {st : List Va} {σ : Sg} {Q : Rs → Sg → Prop} : Wx d 2 69 ls st σ Q ↔ Wx d 2 72 ls (vl 60 :: st) σ Q := u_ldc2 d2_69 rfl
theorem d2_72 : decode (mB 2) 72 = .ok (.lcmp, 1) := by decide +kernel
theorem u2_72 {d : Nat} {ls : Lo} {st : List Va} {σ : Sg} {Q : Rs → Sg → Prop} {a b : Int} : Wx d 2 72 ls (vl b :: vl a :: st) σ Q ↔ Wx d 2 73 ls (vi (lg_cmp (i6 a) (i6 b)).toInt :: st) σ Q := u_lcmp d2_72
theorem d2_73 : decode (mB 2) 73 = .ok (.ifCond .le 13, 3) := by decide +kernel
theorem u2_73 {d : Nat} {ls : Lo} {st : List Va} {σ : Sg} {Q : Rs → Sg → Prop} {a : Int} (h : -2147483648 ≤ a ∧ a ≤ 2147483647) : Wx d 2 73 ls (vi a :: st) σ Q ↔ if a ≤ 0 then Wx d 2 86 ls st σ Q else Wx d 2 76 ls st σ Q := u_ifle d2_73 (by decide) h
theorem d2_76 : decode (mB 2) 76 = .ok (.new 41, 3) := by decide +kernel
theorem u2_76 {d : Nat} {ls : Lo} {σ : Sg} {Q : Rs → Sg → Prop} : Wx d 2 76 ls [] σ Q ↔ Q (.inr 1) σ := u_throw d2_76 rfl
theorem d2_79 : decode (mB 2) 79 = .ok (.dup, 1) := by decide +kernel
theorem u2_79i {d : Nat} {ls : Lo} {st : List Va} {σ : Sg} {Q : Rs → Sg → Prop} {a : Int} : Wx d 2 79 ls (vi a :: st) σ Q ↔ Wx d 2 80 ls (vi a :: vi a :: st) σ Q := u_dupi d2_79
theorem u2_79r {d : Nat} {ls : Lo} {st : List Va} {σ : Sg} {Q : Rs → Sg → Prop} {g j : Nat} : Wx d 2 79 ls (vr g j :: st) σ Q ↔ Wx d 2 80 ls (vr g j :: vr g j :: st) σ Q := u_dupr d2_79
theorem d2_80 : decode (mB 2) 80 = .ok (.ldc 77, 2) := by decide +kernel
theorem d2_82 : decode (mB 2) 82 = .ok (.invokespecial 45, 3) := by decide +kernel
theorem d2_85 : decode (mB 2) 85 = .ok (.athrow, 1) := by decide +kernel
theorem d2_86 : decode (mB 2) 86 = .ok (.aload_n 0, 1) := by decide +kernel
theorem u2_86 {d : Nat} {ls : Lo} {st : List Va} {σ : Sg} {Q : Rs → Sg → Prop} : Wx d 2 86 ls st σ Q ↔ Lr (lget ls 0) (fun z => Wx d 2 87 ls (.inr (.inl z) :: st) σ Q) := u_aload_n d2_86
theorem d2_87 : decode (mB 2) 87 = .ok (.getfield 18, 3) := by decide +kernel
theorem u2_87 {d : Nat} {ls : Lo} {st : List Va} {σ : Sg} {Q : Rs → Sg → Prop} {g j : Nat} : Wx d 2 87 ls (vr g j :: st) σ Q ↔ isO g j 0 ∧ Wx d 2 90 ls (fvv σ g j 1 :: st) σ Q := u_get (w := (0, 1)) d2_87 rfl
theorem d2_90 : decode (mB 2) 90 = .ok (.iload_n 1, 1) := by decide +kernel
theorem u2_90 {d : Nat} {ls : Lo} {st : List Va} {σ : Sg} {Q : Rs → Sg → Prop} : Wx d 2 90 ls st σ Q ↔ Li (lget ls 1) (fun z => Wx d 2 91 ls (vi z :: st) σ Q) := u_iload_n d2_90
theorem d2_91 : decode (mB 2) 91 = .ok (.aaload, 1) := by decide +kernel
theorem u2_91 {d : Nat} {ls : Lo} {st : List Va} {σ : Sg} {Q : Rs → Sg → Prop} {z : Int} {g j : Nat} : Wx d 2 91 ls (vi z :: vr g j :: st) σ Q ↔ (isA g j 2 z ∨ isA g j 3 z) ∧ On (rf g j z.toNat) (fun w => Wx d 2 92 ls (.inr (.inl w) :: st) σ Q) := u_aald d2_91
theorem d2_92 : decode (mB 2) 92 = .ok (.iload_n 2, 1) := by decide +kernel
theorem u2_92 {d : Nat} {ls : Lo} {st : List Va} {σ : Sg} {Q : Rs → Sg → Prop} : Wx d 2 92 ls st σ Q ↔ Li (lget ls 2) (fun z => Wx d 2 93 ls (vi z :: st) σ Q) := u_iload_n d2_92
theorem d2_93 : decode (mB 2) 93 = .ok (.iload 4, 2) := by decide +kernel
theorem u2_93 {d : Nat} {ls : Lo} {st : List Va} {σ : Sg} {Q : Rs → Sg → Prop} : Wx d 2 93 ls st σ Q ↔ Li (lget ls 4) (fun z => Wx d 2 95 ls (vi z :: st) σ Q) := u_iload d2_93
theorem d2_95 : decode (mB 2) 95 = .ok (.lload 5, 2) := by decide +kernel
theorem u2_95 {d : Nat} {ls : Lo} {st : List Va} {σ : Sg} {Q : Rs → Sg → Prop} : Wx d 2 95 ls st σ Q ↔ Ll (lget ls 5) (fun z => Wx d 2 97 ls (vl z :: st) σ Q) := u_lload d2_95
theorem d2_97 : decode (mB 2) 97 = .ok (.l2i, 1) := by decide +kernel
theorem u2_97 {d : Nat} {ls : Lo} {st : List Va} {σ : Sg} {Q : Rs → Sg → Prop} {a : Int} : Wx d 2 97 ls (vl a :: st) σ Q ↔ Wx d 2 98 ls (vi a :: st) σ Q := u_l2i d2_97
theorem d2_98 : decode (mB 2) 98 = .ok (.invokevirtual 79, 3) := by decide +kernel
theorem u2_98 {d : Nat} {ls : Lo} {st : List Va} {σ : Sg} {Q : Rs → Sg → Prop} {g j : Nat} {a1 a2 a3 : Va} : Wx (d + 1) 2 98 ls (a3 :: a2 :: a1 :: vr g j :: st) σ Q ↔ (isO g j 3 ∧ st.length ≤ 4 ∧ nlg [a3, a2, a1] = true) ∧ Wm d 30 [vr g j, a1, a2, a3] σ (Kc (d + 1) 2 101 ls st Q) := u_inv3 d2_98 rfl rfl rfl
theorem d2_101 : decode (mB 2) 101 = .ok (.aload_n 0, 1) := by decide +kernel
theorem u2_101 {d : Nat} {ls : Lo} {st : List Va} {σ : Sg} {Q : Rs → Sg → Prop} : Wx d 2 101 ls st σ Q ↔ Lr (lget ls 0) (fun z => Wx d 2 102 ls (.inr (.inl z) :: st) σ Q) := u_aload_n d2_101
theorem d2_102 : decode (mB 2) 102 = .ok (.getfield 18, 3) := by decide +kernel
theorem u2_102 {d : Nat} {ls : Lo} {st : List Va} {σ : Sg} {Q : Rs → Sg → Prop} {g j : Nat} : Wx d 2 102 ls (vr g j :: st) σ Q ↔ isO g j 0 ∧ Wx d 2 105 ls (fvv σ g j 1 :: st) σ Q := u_get (w := (0, 1)) d2_102 rfl
theorem d2_105 : decode (mB 2) 105 = .ok (.iload_n 1, 1) := by decide +kernel
theorem u2_105 {d : Nat} {ls : Lo} {st : List Va} {σ : Sg} {Q : Rs → Sg → Prop} : Wx d 2 105 ls st σ Q ↔ Li (lget ls 1) (fun z => Wx d 2 106 ls (vi z :: st) σ Q) := u_iload_n d2_105
theorem d2_106 : decode (mB 2) 106 = .ok (.aaload, 1) := by decide +kernel
theorem u2_106 {d : Nat} {ls : Lo} {st : List Va} {σ : Sg} {Q : Rs → Sg → Prop} {z : Int} {g j : Nat} : Wx d 2 106 ls (vi z :: vr g j :: st) σ Q ↔ (isA g j 2 z ∨ isA g j 3 z) ∧ On (rf g j z.toNat) (fun w => Wx d 2 107 ls (.inr (.inl w) :: st) σ Q) := u_aald d2_106
theorem d2_107 : decode (mB 2) 107 = .ok (.aload_n 0, 1) := by decide +kernel
theorem u2_107 {d : Nat} {ls : Lo} {st : List Va} {σ : Sg} {Q : Rs → Sg → Prop} : Wx d 2 107 ls st σ Q ↔ Lr (lget ls 0) (fun z => Wx d 2 108 ls (.inr (.inl z) :: st) σ Q) := u_aload_n d2_107
theorem d2_108 : decode (mB 2) 108 = .ok (.getfield 10, 3) := by decide +kernel
theorem u2_108 {d : Nat} {ls : Lo} {st : List Va} {σ : Sg} {Q : Rs → Sg → Prop} {g j : Nat} : Wx d 2 108 ls (vr g j :: st) σ Q ↔ isO g j 0 ∧ Wx d 2 111 ls (fvv σ g j 0 :: st) σ Q := u_get (w := (0, 0)) d2_108 rfl
theorem d2_111 : decode (mB 2) 111 = .ok (.invokevirtual 52, 3) := by decide +kernel
theorem u2_111 {d : Nat} {ls : Lo} {st : List Va} {σ : Sg} {Q : Rs → Sg → Prop} {g j : Nat} {a1 : Va} : Wx (d + 1) 2 111 ls (a1 :: vr g j :: st) σ Q ↔ (isO g j 3 ∧ st.length ≤ 4 ∧ nlg [a1] = true) ∧ Wm d 31 [vr g j, a1] σ (Kc (d + 1) 2 114 ls st Q) := u_inv1 d2_111 rfl rfl rfl
theorem d2_114 : decode (mB 2) 114 = .ok (.aload_n 0, 1) := by decide +kernel
theorem u2_114 {d : Nat} {ls : Lo} {st : List Va} {σ : Sg} {Q : Rs → Sg → Prop} : Wx d 2 114 ls st σ Q ↔ Lr (lget ls 0) (fun z => Wx d 2 115 ls (.inr (.inl z) :: st) σ Q) := u_aload_n d2_114
theorem d2_115 : decode (mB 2) 115 = .ok (.getfield 25, 3) := by decide +kernel
theorem u2_115 {d : Nat} {ls : Lo} {st : List Va} {σ : Sg} {Q : Rs → Sg → Prop} {g j : Nat} : Wx d 2 115 ls (vr g j :: st) σ Q ↔ isO g j 0 ∧ Wx d 2 118 ls (fvv σ g j 2 :: st) σ Q := u_get (w := (0, 2)) d2_115 rfl
theorem d2_118 : decode (mB 2) 118 = .ok (.invokevirtual 56, 3) := by decide +kernel
theorem u2_118 {d : Nat} {ls : Lo} {st : List Va} {σ : Sg} {Q : Rs → Sg → Prop} {g j : Nat} : Wx (d + 1) 2 118 ls (vr g j :: st) σ Q ↔ (isO g j 5 ∧ st.length ≤ 4 ∧ nlg [] = true) ∧ Wm d 55 [vr g j] σ (Kc (d + 1) 2 121 ls st Q) := u_inv0 d2_118 rfl rfl rfl
theorem d2_121 : decode (mB 2) 121 = .ok (.lload 5, 2) := by decide +kernel
theorem u2_121 {d : Nat} {ls : Lo} {st : List Va} {σ : Sg} {Q : Rs → Sg → Prop} : Wx d 2 121 ls st σ Q ↔ Ll (lget ls 5) (fun z => Wx d 2 123 ls (vl z :: st) σ Q) := u_lload d2_121
theorem d2_123 : decode (mB 2) 123 = .ok (.l2i, 1) := by decide +kernel
theorem u2_123 {d : Nat} {ls : Lo} {st : List Va} {σ : Sg} {Q : Rs → Sg → Prop} {a : Int} : Wx d 2 123 ls (vl a :: st) σ Q ↔ Wx d 2 124 ls (vi a :: st) σ Q := u_l2i d2_123
theorem d2_124 : decode (mB 2) 124 = .ok (.ireturn, 1) := by decide +kernel
theorem u2_124 {d : Nat} {ls : Lo} {σ : Sg} {Q : Rs → Sg → Prop} {z : Int} : Wx d 2 124 ls [vi z] σ Q ↔ Q (.inl (some (vi z))) σ := u_iret d2_124 rfl
/-! 3: FiguredBass.figure(III)I -/
theorem d3_0 : decode (mB 3) 0 = .ok (.aload_n 0, 1) := by decide +kernel
theorem u3_0 {d : Nat} {ls : Lo} {st : List Va} {σ : Sg} {Q : Rs → Sg → Prop} : Wx d 3 0 ls st σ Q ↔ Lr (lget ls 0) (fun z => Wx d 3 1 ls (.inr (.inl z) :: st) σ Q) := u_aload_n d3_0
theorem d3_1 : decode (mB 3) 1 = .ok (.iload_n 1, 1) := by decide +kernel
theorem u3_1 {d : Nat} {ls : Lo} {st : List Va} {σ : Sg} {Q : Rs → Sg → Prop} : Wx d 3 1 ls st σ Q ↔ Li (lget ls 1) (fun z => Wx d 3 2 ls (vi z :: st) σ Q) := u_iload_n d3_1
theorem d3_2 : decode (mB 3) 2 = .ok (.bipush 8, 2) := by decide +kernel
theorem u3_2 {d : Nat} {ls : Lo} {st : List Va} {σ : Sg} {Q : Rs → Sg → Prop} : Wx d 3 2 ls st σ Q ↔ Wx d 3 4 ls (vi 8 :: st) σ Q := u_bipush d3_2 (by decide)
theorem d3_4 : decode (mB 3) 4 = .ok (.invokevirtual 61, 3) := by decide +kernel
theorem u3_4 {d : Nat} {ls : Lo} {st : List Va} {σ : Sg} {Q : Rs → Sg → Prop} {g j : Nat} {a1 a2 : Va} : Wx (d + 1) 3 4 ls (a2 :: a1 :: vr g j :: st) σ Q ↔ (isO g j 0 ∧ st.length ≤ 4 ∧ nlg [a2, a1] = true) ∧ Wm d 13 [vr g j, a1, a2] σ (Kc (d + 1) 3 7 ls st Q) := u_inv2 d3_4 rfl rfl rfl
theorem d3_7 : decode (mB 3) 7 = .ok (.iload_n 2, 1) := by decide +kernel
theorem u3_7 {d : Nat} {ls : Lo} {st : List Va} {σ : Sg} {Q : Rs → Sg → Prop} : Wx d 3 7 ls st σ Q ↔ Li (lget ls 2) (fun z => Wx d 3 8 ls (vi z :: st) σ Q) := u_iload_n d3_7
theorem d3_8 : decode (mB 3) 8 = .ok (.iconst 2, 1) := by decide +kernel
theorem u3_8 {d : Nat} {ls : Lo} {st : List Va} {σ : Sg} {Q : Rs → Sg → Prop} : Wx d 3 8 ls st σ Q ↔ Wx d 3 9 ls (vi 2 :: st) σ Q := u_iconst d3_8
theorem d3_9 : decode (mB 3) 9 = .ok (.if_icmp .lt 18, 3) := by decide +kernel
theorem u3_9 {d : Nat} {ls : Lo} {st : List Va} {σ : Sg} {Q : Rs → Sg → Prop} {a b : Int} (h : -2147483648 ≤ a ∧ a ≤ 2147483647) (h2 : -2147483648 ≤ b ∧ b ≤ 2147483647) : Wx d 3 9 ls (vi b :: vi a :: st) σ Q ↔ if a < b then Wx d 3 27 ls st σ Q else Wx d 3 12 ls st σ Q := u_iclt d3_9 (by decide) h h2
theorem d3_12 : decode (mB 3) 12 = .ok (.iload_n 2, 1) := by decide +kernel
theorem u3_12 {d : Nat} {ls : Lo} {st : List Va} {σ : Sg} {Q : Rs → Sg → Prop} : Wx d 3 12 ls st σ Q ↔ Li (lget ls 2) (fun z => Wx d 3 13 ls (vi z :: st) σ Q) := u_iload_n d3_12
theorem d3_13 : decode (mB 3) 13 = .ok (.bipush 9, 2) := by decide +kernel
theorem u3_13 {d : Nat} {ls : Lo} {st : List Va} {σ : Sg} {Q : Rs → Sg → Prop} : Wx d 3 13 ls st σ Q ↔ Wx d 3 15 ls (vi 9 :: st) σ Q := u_bipush d3_13 (by decide)
theorem d3_15 : decode (mB 3) 15 = .ok (.if_icmp .gt 12, 3) := by decide +kernel
theorem u3_15 {d : Nat} {ls : Lo} {st : List Va} {σ : Sg} {Q : Rs → Sg → Prop} {a b : Int} (h : -2147483648 ≤ a ∧ a ≤ 2147483647) (h2 : -2147483648 ≤ b ∧ b ≤ 2147483647) : Wx d 3 15 ls (vi b :: vi a :: st) σ Q ↔ if b < a then Wx d 3 27 ls st σ Q else Wx d 3 18 ls st σ Q := u_icgt d3_15 (by decide) h h2
theorem d3_18 : decode (mB 3) 18 = .ok (.iload_n 3, 1) := by decide +kernel
theorem u3_18 {d : Nat} {ls : Lo} {st : List Va} {σ : Sg} {Q : Rs → Sg → Prop} : Wx d 3 18 ls st σ Q ↔ Li (lget ls 3) (fun z => Wx d 3 19 ls (vi z :: st) σ Q) := u_iload_n d3_18
theorem d3_19 : decode (mB 3) 19 = .ok (.ifCond .lt 8, 3) := by decide +kernel
theorem u3_19 {d : Nat} {ls : Lo} {st : List Va} {σ : Sg} {Q : Rs → Sg → Prop} {a : Int} (h : -2147483648 ≤ a ∧ a ≤ 2147483647) : Wx d 3 19 ls (vi a :: st) σ Q ↔ if a < 0 then Wx d 3 27 ls st σ Q else Wx d 3 22 ls st σ Q := u_iflt d3_19 (by decide) h
theorem d3_22 : decode (mB 3) 22 = .ok (.iload_n 3, 1) := by decide +kernel
theorem u3_22 {d : Nat} {ls : Lo} {st : List Va} {σ : Sg} {Q : Rs → Sg → Prop} : Wx d 3 22 ls st σ Q ↔ Li (lget ls 3) (fun z => Wx d 3 23 ls (vi z :: st) σ Q) := u_iload_n d3_22
theorem d3_23 : decode (mB 3) 23 = .ok (.iconst 3, 1) := by decide +kernel
theorem u3_23 {d : Nat} {ls : Lo} {st : List Va} {σ : Sg} {Q : Rs → Sg → Prop} : Wx d 3 23 ls st σ Q ↔ Wx d 3 24 ls (vi 3 :: st) σ Q := u_iconst d3_23
theorem d3_24 : decode (mB 3) 24 = .ok (.if_icmp .le 13, 3) := by decide +kernel
theorem u3_24 {d : Nat} {ls : Lo} {st : List Va} {σ : Sg} {Q : Rs → Sg → Prop} {a b : Int} (h : -2147483648 ≤ a ∧ a ≤ 2147483647) (h2 : -2147483648 ≤ b ∧ b ≤ 2147483647) : Wx d 3 24 ls (vi b :: vi a :: st) σ Q ↔ if a ≤ b then Wx d 3 37 ls st σ Q else Wx d 3 27 ls st σ Q := u_icle d3_24 (by decide) h h2
theorem d3_27 : decode (mB 3) 27 = .ok (.new 41, 3) := by decide +kernel
theorem u3_27 {d : Nat} {ls : Lo} {σ : Sg} {Q : Rs → Sg → Prop} : Wx d 3 27 ls [] σ Q ↔ Q (.inr 1) σ := u_throw d3_27 rfl
theorem d3_30 : decode (mB 3) 30 = .ok (.dup, 1) := by decide +kernel
theorem u3_30i {d : Nat} {ls : Lo} {st : List Va} {σ : Sg} {Q : Rs → Sg → Prop} {a : Int} : Wx d 3 30 ls (vi a :: st) σ Q ↔ Wx d 3 31 ls (vi a :: vi a :: st) σ Q := u_dupi d3_30
theorem u3_30r {d : Nat} {ls : Lo} {st : List Va} {σ : Sg} {Q : Rs → Sg → Prop} {g j : Nat} : Wx d 3 30 ls (vr g j :: st) σ Q ↔ Wx d 3 31 ls (vr g j :: vr g j :: st) σ Q := u_dupr d3_30
theorem d3_31 : decode (mB 3) 31 = .ok (.ldc 83, 2) := by decide +kernel
theorem d3_33 : decode (mB 3) 33 = .ok (.invokespecial 45, 3) := by decide +kernel
theorem d3_36 : decode (mB 3) 36 = .ok (.athrow, 1) := by decide +kernel
theorem d3_37 : decode (mB 3) 37 = .ok (.aload_n 0, 1) := by decide +kernel
theorem u3_37 {d : Nat} {ls : Lo} {st : List Va} {σ : Sg} {Q : Rs → Sg → Prop} : Wx d 3 37 ls st σ Q ↔ Lr (lget ls 0) (fun z => Wx d 3 38 ls (.inr (.inl z) :: st) σ Q) := u_aload_n d3_37
theorem d3_38 : decode (mB 3) 38 = .ok (.getfield 18, 3) := by decide +kernel
theorem u3_38 {d : Nat} {ls : Lo} {st : List Va} {σ : Sg} {Q : Rs → Sg → Prop} {g j : Nat} : Wx d 3 38 ls (vr g j :: st) σ Q ↔ isO g j 0 ∧ Wx d 3 41 ls (fvv σ g j 1 :: st) σ Q := u_get (w := (0, 1)) d3_38 rfl
theorem d3_41 : decode (mB 3) 41 = .ok (.iload_n 1, 1) := by decide +kernel
theorem u3_41 {d : Nat} {ls : Lo} {st : List Va} {σ : Sg} {Q : Rs → Sg → Prop} : Wx d 3 41 ls st σ Q ↔ Li (lget ls 1) (fun z => Wx d 3 42 ls (vi z :: st) σ Q) := u_iload_n d3_41
theorem d3_42 : decode (mB 3) 42 = .ok (.aaload, 1) := by decide +kernel
theorem u3_42 {d : Nat} {ls : Lo} {st : List Va} {σ : Sg} {Q : Rs → Sg → Prop} {z : Int} {g j : Nat} : Wx d 3 42 ls (vi z :: vr g j :: st) σ Q ↔ (isA g j 2 z ∨ isA g j 3 z) ∧ On (rf g j z.toNat) (fun w => Wx d 3 43 ls (.inr (.inl w) :: st) σ Q) := u_aald d3_42
theorem d3_43 : decode (mB 3) 43 = .ok (.astore 4, 2) := by decide +kernel
theorem u3_43 {d : Nat} {ls : Lo} {st : List Va} {σ : Sg} {Q : Rs → Sg → Prop} {g j : Nat} : Wx d 3 43 ls (vr g j :: st) σ Q ↔ Wx d 3 45 (lset ls 4 (vr g j)) st σ Q := u_astore d3_43 (by decide)
theorem d3_45 : decode (mB 3) 45 = .ok (.aload 4, 2) := by decide +kernel
theorem u3_45 {d : Nat} {ls : Lo} {st : List Va} {σ : Sg} {Q : Rs → Sg → Prop} : Wx d 3 45 ls st σ Q ↔ Lr (lget ls 4) (fun z => Wx d 3 47 ls (.inr (.inl z) :: st) σ Q) := u_aload d3_45
theorem d3_47 : decode (mB 3) 47 = .ok (.invokevirtual 85, 3) := by decide +kernel
theorem u3_47 {d : Nat} {ls : Lo} {st : List Va} {σ : Sg} {Q : Rs → Sg → Prop} {g j : Nat} : Wx (d + 1) 3 47 ls (vr g j :: st) σ Q ↔ (isO g j 3 ∧ st.length ≤ 4 ∧ nlg [] = true) ∧ Wm d 29 [vr g j] σ (Kc (d + 1) 3 50 ls st Q) := u_inv0 d3_47 rfl rfl rfl
theorem d3_50 : decode (mB 3) 50 = .ok (.ifCond .eq 15, 3) := by decide +kernel
theorem u3_50 {d : Nat} {ls : Lo} {st : List Va} {σ : Sg} {Q : Rs → Sg → Prop} {a : Int} (h : -2147483648 ≤ a ∧ a ≤ 2147483647) : Wx d 3 50 ls (vi a :: st) σ Q ↔ if a = 0 then Wx d 3 65 ls st σ Q else Wx d 3 53 ls st σ Q := u_ifeq d3_50 (by decide) h
theorem d3_53 : decode (mB 3) 53 = .ok (.aload 4, 2) := by decide +kernel
theorem u3_53 {d : Nat} {ls : Lo} {st : List Va} {σ : Sg} {Q : Rs → Sg → Prop} : Wx d 3 53 ls st σ Q ↔ Lr (lget ls 4) (fun z => Wx d 3 55 ls (.inr (.inl z) :: st) σ Q) := u_aload d3_53
theorem d3_55 : decode (mB 3) 55 = .ok (.getfield 89, 3) := by decide +kernel
theorem u3_55 {d : Nat} {ls : Lo} {st : List Va} {σ : Sg} {Q : Rs → Sg → Prop} {g j : Nat} : Wx d 3 55 ls (vr g j :: st) σ Q ↔ isO g j 3 ∧ Wx d 3 58 ls (fvv σ g j 0 :: st) σ Q := u_get (w := (3, 0)) d3_55 rfl
theorem d3_58 : decode (mB 3) 58 = .ok (.iload_n 2, 1) := by decide +kernel
theorem u3_58 {d : Nat} {ls : Lo} {st : List Va} {σ : Sg} {Q : Rs → Sg → Prop} : Wx d 3 58 ls st σ Q ↔ Li (lget ls 2) (fun z => Wx d 3 59 ls (vi z :: st) σ Q) := u_iload_n d3_58
theorem d3_59 : decode (mB 3) 59 = .ok (.invokevirtual 93, 3) := by decide +kernel
theorem u3_59 {d : Nat} {ls : Lo} {st : List Va} {σ : Sg} {Q : Rs → Sg → Prop} {g j : Nat} {a1 : Va} : Wx (d + 1) 3 59 ls (a1 :: vr g j :: st) σ Q ↔ (isO g j 2 ∧ st.length ≤ 4 ∧ nlg [a1] = true) ∧ Wm d 21 [vr g j, a1] σ (Kc (d + 1) 3 62 ls st Q) := u_inv1 d3_59 rfl rfl rfl
theorem d3_62 : decode (mB 3) 62 = .ok (.ifCond .ne 13, 3) := by decide +kernel
theorem u3_62 {d : Nat} {ls : Lo} {st : List Va} {σ : Sg} {Q : Rs → Sg → Prop} {a : Int} (h : -2147483648 ≤ a ∧ a ≤ 2147483647) : Wx d 3 62 ls (vi a :: st) σ Q ↔ if ¬ a = 0 then Wx d 3 75 ls st σ Q else Wx d 3 65 ls st σ Q := u_ifne d3_62 (by decide) h
theorem d3_65 : decode (mB 3) 65 = .ok (.new 99, 3) := by decide +kernel
theorem u3_65 {d : Nat} {ls : Lo} {σ : Sg} {Q : Rs → Sg → Prop} : Wx d 3 65 ls [] σ Q ↔ Q (.inr 2) σ := u_throw d3_65 rfl
theorem d3_68 : decode (mB 3) 68 = .ok (.dup, 1) := by decide +kernel
theorem u3_68i {d : Nat} {ls : Lo} {st : List Va} {σ : Sg} {Q : Rs → Sg → Prop} {a : Int} : Wx d 3 68 ls (vi a :: st) σ Q ↔ Wx d 3 69 ls (vi a :: vi a :: st) σ Q := u_dupi d3_68
theorem u3_68r {d : Nat} {ls : Lo} {st : List Va} {σ : Sg} {Q : Rs → Sg → Prop} {g j : Nat} : Wx d 3 68 ls (vr g j :: st) σ Q ↔ Wx d 3 69 ls (vr g j :: vr g j :: st) σ Q := u_dupr d3_68
theorem d3_69 : decode (mB 3) 69 = .ok (.ldc 101, 2) := by decide +kernel
theorem d3_71 : decode (mB 3) 71 = .ok (.invokespecial 103, 3) := by decide +kernel
theorem d3_74 : decode (mB 3) 74 = .ok (.athrow, 1) := by decide +kernel
theorem d3_75 : decode (mB 3) 75 = .ok (.aload 4, 2) := by decide +kernel
theorem u3_75 {d : Nat} {ls : Lo} {st : List Va} {σ : Sg} {Q : Rs → Sg → Prop} : Wx d 3 75 ls st σ Q ↔ Lr (lget ls 4) (fun z => Wx d 3 77 ls (.inr (.inl z) :: st) σ Q) := u_aload d3_75
theorem d3_77 : decode (mB 3) 77 = .ok (.getfield 89, 3) := by decide +kernel
theorem u3_77 {d : Nat} {ls : Lo} {st : List Va} {σ : Sg} {Q : Rs → Sg → Prop} {g j : Nat} : Wx d 3 77 ls (vr g j :: st) σ Q ↔ isO g j 3 ∧ Wx d 3 80 ls (fvv σ g j 0 :: st) σ Q := u_get (w := (3, 0)) d3_77 rfl
theorem d3_80 : decode (mB 3) 80 = .ok (.iload_n 2, 1) := by decide +kernel
theorem u3_80 {d : Nat} {ls : Lo} {st : List Va} {σ : Sg} {Q : Rs → Sg → Prop} : Wx d 3 80 ls st σ Q ↔ Li (lget ls 2) (fun z => Wx d 3 81 ls (vi z :: st) σ Q) := u_iload_n d3_80
theorem d3_81 : decode (mB 3) 81 = .ok (.iload_n 3, 1) := by decide +kernel
theorem u3_81 {d : Nat} {ls : Lo} {st : List Va} {σ : Sg} {Q : Rs → Sg → Prop} : Wx d 3 81 ls st σ Q ↔ Li (lget ls 3) (fun z => Wx d 3 82 ls (vi z :: st) σ Q) := u_iload_n d3_81
theorem d3_82 : decode (mB 3) 82 = .ok (.invokevirtual 104, 3) := by decide +kernel
theorem u3_82 {d : Nat} {ls : Lo} {st : List Va} {σ : Sg} {Q : Rs → Sg → Prop} {g j : Nat} {a1 a2 : Va} : Wx (d + 1) 3 82 ls (a2 :: a1 :: vr g j :: st) σ Q ↔ (isO g j 2 ∧ st.length ≤ 4 ∧ nlg [a2, a1] = true) ∧ Wm d 22 [vr g j, a1, a2] σ (Kc (d + 1) 3 85 ls st Q) := u_inv2 d3_82 rfl rfl rfl
theorem d3_85 : decode (mB 3) 85 = .ok (.aload 4, 2) := by decide +kernel
theorem u3_85 {d : Nat} {ls : Lo} {st : List Va} {σ : Sg} {Q : Rs → Sg → Prop} : Wx d 3 85 ls st σ Q ↔ Lr (lget ls 4) (fun z => Wx d 3 87 ls (.inr (.inl z) :: st) σ Q) := u_aload d3_85
theorem d3_87 : decode (mB 3) 87 = .ok (.aload_n 0, 1) := by decide +kernel
theorem u3_87 {d : Nat} {ls : Lo} {st : List Va} {σ : Sg} {Q : Rs → Sg → Prop} : Wx d 3 87 ls st σ Q ↔ Lr (lget ls 0) (fun z => Wx d 3 88 ls (.inr (.inl z) :: st) σ Q) := u_aload_n d3_87
theorem d3_88 : decode (mB 3) 88 = .ok (.getfield 10, 3) := by decide +kernel
theorem u3_88 {d : Nat} {ls : Lo} {st : List Va} {σ : Sg} {Q : Rs → Sg → Prop} {g j : Nat} : Wx d 3 88 ls (vr g j :: st) σ Q ↔ isO g j 0 ∧ Wx d 3 91 ls (fvv σ g j 0 :: st) σ Q := u_get (w := (0, 0)) d3_88 rfl
theorem d3_91 : decode (mB 3) 91 = .ok (.invokevirtual 52, 3) := by decide +kernel
theorem u3_91 {d : Nat} {ls : Lo} {st : List Va} {σ : Sg} {Q : Rs → Sg → Prop} {g j : Nat} {a1 : Va} : Wx (d + 1) 3 91 ls (a1 :: vr g j :: st) σ Q ↔ (isO g j 3 ∧ st.length ≤ 4 ∧ nlg [a1] = true) ∧ Wm d 31 [vr g j, a1] σ (Kc (d + 1) 3 94 ls st Q) := u_inv1 d3_91 rfl rfl rfl
theorem d3_94 : decode (mB 3) 94 = .ok (.aload_n 0, 1) := by decide +kernel
theorem u3_94 {d : Nat} {ls : Lo} {st : List Va} {σ : Sg} {Q : Rs → Sg → Prop} : Wx d 3 94 ls st σ Q ↔ Lr (lget ls 0) (fun z => Wx d 3 95 ls (.inr (.inl z) :: st) σ Q) := u_aload_n d3_94
theorem d3_95 : decode (mB 3) 95 = .ok (.getfield 25, 3) := by decide +kernel
theorem u3_95 {d : Nat} {ls : Lo} {st : List Va} {σ : Sg} {Q : Rs → Sg → Prop} {g j : Nat} : Wx d 3 95 ls (vr g j :: st) σ Q ↔ isO g j 0 ∧ Wx d 3 98 ls (fvv σ g j 2 :: st) σ Q := u_get (w := (0, 2)) d3_95 rfl
theorem d3_98 : decode (mB 3) 98 = .ok (.invokevirtual 56, 3) := by decide +kernel
theorem u3_98 {d : Nat} {ls : Lo} {st : List Va} {σ : Sg} {Q : Rs → Sg → Prop} {g j : Nat} : Wx (d + 1) 3 98 ls (vr g j :: st) σ Q ↔ (isO g j 5 ∧ st.length ≤ 4 ∧ nlg [] = true) ∧ Wm d 55 [vr g j] σ (Kc (d + 1) 3 101 ls st Q) := u_inv0 d3_98 rfl rfl rfl
theorem d3_101 : decode (mB 3) 101 = .ok (.aload 4, 2) := by decide +kernel
theorem u3_101 {d : Nat} {ls : Lo} {st : List Va} {σ : Sg} {Q : Rs → Sg → Prop} : Wx d 3 101 ls st σ Q ↔ Lr (lget ls 4) (fun z => Wx d 3 103 ls (.inr (.inl z) :: st) σ Q) := u_aload d3_101
theorem d3_103 : decode (mB 3) 103 = .ok (.getfield 89, 3) := by decide +kernel
theorem u3_103 {d : Nat} {ls : Lo} {st : List Va} {σ : Sg} {Q : Rs → Sg → Prop} {g j : Nat} : Wx d 3 103 ls (vr g j :: st) σ Q ↔ isO g j 3 ∧ Wx d 3 106 ls (fvv σ g j 0 :: st) σ Q := u_get (w := (3, 0)) d3_103 rfl
theorem d3_106 : decode (mB 3) 106 = .ok (.getfield 107, 3) := by decide +kernel
theorem u3_106 {d : Nat} {ls : Lo} {st : List Va} {σ : Sg} {Q : Rs → Sg → Prop} {g j : Nat} : Wx d 3 106 ls (vr g j :: st) σ Q ↔ isO g j 2 ∧ Wx d 3 109 ls (fvv σ g j 2 :: st) σ Q := u_get (w := (2, 2)) d3_106 rfl
theorem d3_109 : decode (mB 3) 109 = .ok (.ireturn, 1) := by decide +kernel
theorem u3_109 {d : Nat} {ls : Lo} {σ : Sg} {Q : Rs → Sg → Prop} {z : Int} : Wx d 3 109 ls [vi z] σ Q ↔ Q (.inl (some (vi z))) σ := u_iret d3_109 rfl
/-! 4: FiguredBass.spell(II)I -/
theorem d4_0 : decode (mB 4) 0 = .ok (.aload_n 0, 1) := by decide +kernel
theorem u4_0 {d : Nat} {ls : Lo} {st : List Va} {σ : Sg} {Q : Rs → Sg → Prop} : Wx d 4 0 ls st σ Q ↔ Lr (lget ls 0) (fun z => Wx d 4 1 ls (.inr (.inl z) :: st) σ Q) := u_aload_n d4_0
theorem d4_1 : decode (mB 4) 1 = .ok (.iload_n 1, 1) := by decide +kernel
theorem u4_1 {d : Nat} {ls : Lo} {st : List Va} {σ : Sg} {Q : Rs → Sg → Prop} : Wx d 4 1 ls st σ Q ↔ Li (lget ls 1) (fun z => Wx d 4 2 ls (vi z :: st) σ Q) := u_iload_n d4_1
theorem d4_2 : decode (mB 4) 2 = .ok (.bipush 8, 2) := by decide +kernel
theorem u4_2 {d : Nat} {ls : Lo} {st : List Va} {σ : Sg} {Q : Rs → Sg → Prop} : Wx d 4 2 ls st σ Q ↔ Wx d 4 4 ls (vi 8 :: st) σ Q := u_bipush d4_2 (by decide)
theorem d4_4 : decode (mB 4) 4 = .ok (.invokevirtual 61, 3) := by decide +kernel
theorem u4_4 {d : Nat} {ls : Lo} {st : List Va} {σ : Sg} {Q : Rs → Sg → Prop} {g j : Nat} {a1 a2 : Va} : Wx (d + 1) 4 4 ls (a2 :: a1 :: vr g j :: st) σ Q ↔ (isO g j 0 ∧ st.length ≤ 4 ∧ nlg [a2, a1] = true) ∧ Wm d 13 [vr g j, a1, a2] σ (Kc (d + 1) 4 7 ls st Q) := u_inv2 d4_4 rfl rfl rfl
theorem d4_7 : decode (mB 4) 7 = .ok (.aload_n 0, 1) := by decide +kernel
theorem u4_7 {d : Nat} {ls : Lo} {st : List Va} {σ : Sg} {Q : Rs → Sg → Prop} : Wx d 4 7 ls st σ Q ↔ Lr (lget ls 0) (fun z => Wx d 4 8 ls (.inr (.inl z) :: st) σ Q) := u_aload_n d4_7
theorem d4_8 : decode (mB 4) 8 = .ok (.getfield 18, 3) := by decide +kernel
theorem u4_8 {d : Nat} {ls : Lo} {st : List Va} {σ : Sg} {Q : Rs → Sg → Prop} {g j : Nat} : Wx d 4 8 ls (vr g j :: st) σ Q ↔ isO g j 0 ∧ Wx d 4 11 ls (fvv σ g j 1 :: st) σ Q := u_get (w := (0, 1)) d4_8 rfl
theorem d4_11 : decode (mB 4) 11 = .ok (.iload_n 1, 1) := by decide +kernel
theorem u4_11 {d : Nat} {ls : Lo} {st : List Va} {σ : Sg} {Q : Rs → Sg → Prop} : Wx d 4 11 ls st σ Q ↔ Li (lget ls 1) (fun z => Wx d 4 12 ls (vi z :: st) σ Q) := u_iload_n d4_11
theorem d4_12 : decode (mB 4) 12 = .ok (.aaload, 1) := by decide +kernel
theorem u4_12 {d : Nat} {ls : Lo} {st : List Va} {σ : Sg} {Q : Rs → Sg → Prop} {z : Int} {g j : Nat} : Wx d 4 12 ls (vi z :: vr g j :: st) σ Q ↔ (isA g j 2 z ∨ isA g j 3 z) ∧ On (rf g j z.toNat) (fun w => Wx d 4 13 ls (.inr (.inl w) :: st) σ Q) := u_aald d4_12
theorem d4_13 : decode (mB 4) 13 = .ok (.astore_n 3, 1) := by decide +kernel
theorem u4_13 {d : Nat} {ls : Lo} {st : List Va} {σ : Sg} {Q : Rs → Sg → Prop} {g j : Nat} : Wx d 4 13 ls (vr g j :: st) σ Q ↔ Wx d 4 14 (lset ls 3 (vr g j)) st σ Q := u_astore_n d4_13 (by decide)
theorem d4_14 : decode (mB 4) 14 = .ok (.aload_n 3, 1) := by decide +kernel
theorem u4_14 {d : Nat} {ls : Lo} {st : List Va} {σ : Sg} {Q : Rs → Sg → Prop} : Wx d 4 14 ls st σ Q ↔ Lr (lget ls 3) (fun z => Wx d 4 15 ls (.inr (.inl z) :: st) σ Q) := u_aload_n d4_14
theorem d4_15 : decode (mB 4) 15 = .ok (.invokevirtual 85, 3) := by decide +kernel
theorem u4_15 {d : Nat} {ls : Lo} {st : List Va} {σ : Sg} {Q : Rs → Sg → Prop} {g j : Nat} : Wx (d + 1) 4 15 ls (vr g j :: st) σ Q ↔ (isO g j 3 ∧ st.length ≤ 4 ∧ nlg [] = true) ∧ Wm d 29 [vr g j] σ (Kc (d + 1) 4 18 ls st Q) := u_inv0 d4_15 rfl rfl rfl
theorem d4_18 : decode (mB 4) 18 = .ok (.ifCond .ne 13, 3) := by decide +kernel
theorem u4_18 {d : Nat} {ls : Lo} {st : List Va} {σ : Sg} {Q : Rs → Sg → Prop} {a : Int} (h : -2147483648 ≤ a ∧ a ≤ 2147483647) : Wx d 4 18 ls (vi a :: st) σ Q ↔ if ¬ a = 0 then Wx d 4 31 ls st σ Q else Wx d 4 21 ls st σ Q := u_ifne d4_18 (by decide) h
theorem d4_21 : decode (mB 4) 21 = .ok (.new 99, 3) := by decide +kernel
theorem u4_21 {d : Nat} {ls : Lo} {σ : Sg} {Q : Rs → Sg → Prop} : Wx d 4 21 ls [] σ Q ↔ Q (.inr 2) σ := u_throw d4_21 rfl
theorem d4_24 : decode (mB 4) 24 = .ok (.dup, 1) := by decide +kernel
theorem u4_24i {d : Nat} {ls : Lo} {st : List Va} {σ : Sg} {Q : Rs → Sg → Prop} {a : Int} : Wx d 4 24 ls (vi a :: st) σ Q ↔ Wx d 4 25 ls (vi a :: vi a :: st) σ Q := u_dupi d4_24
theorem u4_24r {d : Nat} {ls : Lo} {st : List Va} {σ : Sg} {Q : Rs → Sg → Prop} {g j : Nat} : Wx d 4 24 ls (vr g j :: st) σ Q ↔ Wx d 4 25 ls (vr g j :: vr g j :: st) σ Q := u_dupr d4_24
theorem d4_25 : decode (mB 4) 25 = .ok (.ldc 110, 2) := by decide +kernel
theorem d4_27 : decode (mB 4) 27 = .ok (.invokespecial 103, 3) := by decide +kernel
theorem d4_30 : decode (mB 4) 30 = .ok (.athrow, 1) := by decide +kernel
theorem d4_31 : decode (mB 4) 31 = .ok (.iload_n 2, 1) := by decide +kernel
theorem u4_31 {d : Nat} {ls : Lo} {st : List Va} {σ : Sg} {Q : Rs → Sg → Prop} : Wx d 4 31 ls st σ Q ↔ Li (lget ls 2) (fun z => Wx d 4 32 ls (vi z :: st) σ Q) := u_iload_n d4_31
theorem d4_32 : decode (mB 4) 32 = .ok (.ifCond .lt 11, 3) := by decide +kernel
theorem u4_32 {d : Nat} {ls : Lo} {st : List Va} {σ : Sg} {Q : Rs → Sg → Prop} {a : Int} (h : -2147483648 ≤ a ∧ a ≤ 2147483647) : Wx d 4 32 ls (vi a :: st) σ Q ↔ if a < 0 then Wx d 4 43 ls st σ Q else Wx d 4 35 ls st σ Q := u_iflt d4_32 (by decide) h
theorem d4_35 : decode (mB 4) 35 = .ok (.iload_n 2, 1) := by decide +kernel
theorem u4_35 {d : Nat} {ls : Lo} {st : List Va} {σ : Sg} {Q : Rs → Sg → Prop} : Wx d 4 35 ls st σ Q ↔ Li (lget ls 2) (fun z => Wx d 4 36 ls (vi z :: st) σ Q) := u_iload_n d4_35
theorem d4_36 : decode (mB 4) 36 = .ok (.aload_n 3, 1) := by decide +kernel
theorem u4_36 {d : Nat} {ls : Lo} {st : List Va} {σ : Sg} {Q : Rs → Sg → Prop} : Wx d 4 36 ls st σ Q ↔ Lr (lget ls 3) (fun z => Wx d 4 37 ls (.inr (.inl z) :: st) σ Q) := u_aload_n d4_36
theorem d4_37 : decode (mB 4) 37 = .ok (.getfield 112, 3) := by decide +kernel
theorem u4_37 {d : Nat} {ls : Lo} {st : List Va} {σ : Sg} {Q : Rs → Sg → Prop} {g j : Nat} : Wx d 4 37 ls (vr g j :: st) σ Q ↔ isO g j 3 ∧ Wx d 4 40 ls (fvv σ g j 10 :: st) σ Q := u_get (w := (3, 10)) d4_37 rfl
theorem d4_40 : decode (mB 4) 40 = .ok (.if_icmp .lt 13, 3) := by decide +kernel
theorem u4_40 {d : Nat} {ls : Lo} {st : List Va} {σ : Sg} {Q : Rs → Sg → Prop} {a b : Int} (h : -2147483648 ≤ a ∧ a ≤ 2147483647) (h2 : -2147483648 ≤ b ∧ b ≤ 2147483647) : Wx d 4 40 ls (vi b :: vi a :: st) σ Q ↔ if a < b then Wx d 4 53 ls st σ Q else Wx d 4 43 ls st σ Q := u_iclt d4_40 (by decide) h h2
theorem d4_43 : decode (mB 4) 43 = .ok (.new 115, 3) := by decide +kernel
theorem u4_43 {d : Nat} {ls : Lo} {σ : Sg} {Q : Rs → Sg → Prop} : Wx d 4 43 ls [] σ Q ↔ Q (.inr 3) σ := u_throw d4_43 rfl
theorem d4_46 : decode (mB 4) 46 = .ok (.dup, 1) := by decide +kernel
theorem u4_46i {d : Nat} {ls : Lo} {st : List Va} {σ : Sg} {Q : Rs → Sg → Prop} {a : Int} : Wx d 4 46 ls (vi a :: st) σ Q ↔ Wx d 4 47 ls (vi a :: vi a :: st) σ Q := u_dupi d4_46
theorem u4_46r {d : Nat} {ls : Lo} {st : List Va} {σ : Sg} {Q : Rs → Sg → Prop} {g j : Nat} : Wx d 4 46 ls (vr g j :: st) σ Q ↔ Wx d 4 47 ls (vr g j :: vr g j :: st) σ Q := u_dupr d4_46
theorem d4_47 : decode (mB 4) 47 = .ok (.ldc 117, 2) := by decide +kernel
theorem d4_49 : decode (mB 4) 49 = .ok (.invokespecial 119, 3) := by decide +kernel
theorem d4_52 : decode (mB 4) 52 = .ok (.athrow, 1) := by decide +kernel
theorem d4_53 : decode (mB 4) 53 = .ok (.aload_n 3, 1) := by decide +kernel
theorem u4_53 {d : Nat} {ls : Lo} {st : List Va} {σ : Sg} {Q : Rs → Sg → Prop} : Wx d 4 53 ls st σ Q ↔ Lr (lget ls 3) (fun z => Wx d 4 54 ls (.inr (.inl z) :: st) σ Q) := u_aload_n d4_53
theorem d4_54 : decode (mB 4) 54 = .ok (.getfield 120, 3) := by decide +kernel
theorem u4_54 {d : Nat} {ls : Lo} {st : List Va} {σ : Sg} {Q : Rs → Sg → Prop} {g j : Nat} : Wx d 4 54 ls (vr g j :: st) σ Q ↔ isO g j 3 ∧ Wx d 4 57 ls (fvv σ g j 2 :: st) σ Q := u_get (w := (3, 2)) d4_54 rfl
theorem d4_57 : decode (mB 4) 57 = .ok (.iload_n 2, 1) := by decide +kernel
theorem u4_57 {d : Nat} {ls : Lo} {st : List Va} {σ : Sg} {Q : Rs → Sg → Prop} : Wx d 4 57 ls st σ Q ↔ Li (lget ls 2) (fun z => Wx d 4 58 ls (vi z :: st) σ Q) := u_iload_n d4_57
theorem d4_58 : decode (mB 4) 58 = .ok (.iaload, 1) := by decide +kernel
theorem u4_58 {d : Nat} {ls : Lo} {st : List Va} {σ : Sg} {Q : Rs → Sg → Prop} {z : Int} {g j : Nat} : Wx d 4 58 ls (vi z :: vr g j :: st) σ Q ↔ On (ial σ g j z) (fun x => Wx d 4 59 ls (vi x :: st) σ Q) := u_iald d4_58
theorem d4_59 : decode (mB 4) 59 = .ok (.bipush 12, 2) := by decide +kernel
theorem u4_59 {d : Nat} {ls : Lo} {st : List Va} {σ : Sg} {Q : Rs → Sg → Prop} : Wx d 4 59 ls st σ Q ↔ Wx d 4 61 ls (vi 12 :: st) σ Q := u_bipush d4_59 (by decide)
theorem d4_61 : decode (mB 4) 61 = .ok (.imul, 1) := by decide +kernel
theorem u4_61 {d : Nat} {ls : Lo} {st : List Va} {σ : Sg} {Q : Rs → Sg → Prop} {a b : Int} : Wx d 4 61 ls (vi b :: vi a :: st) σ Q ↔ Wx d 4 62 ls (vi (a * b) :: st) σ Q := u_imul d4_61
theorem d4_62 : decode (mB 4) 62 = .ok (.aload_n 3, 1) := by decide +kernel
theorem u4_62 {d : Nat} {ls : Lo} {st : List Va} {σ : Sg} {Q : Rs → Sg → Prop} : Wx d 4 62 ls st σ Q ↔ Lr (lget ls 3) (fun z => Wx d 4 63 ls (.inr (.inl z) :: st) σ Q) := u_aload_n d4_62
theorem d4_63 : decode (mB 4) 63 = .ok (.getfield 123, 3) := by decide +kernel
theorem u4_63 {d : Nat} {ls : Lo} {st : List Va} {σ : Sg} {Q : Rs → Sg → Prop} {g j : Nat} : Wx d 4 63 ls (vr g j :: st) σ Q ↔ isO g j 3 ∧ Wx d 4 66 ls (fvv σ g j 3 :: st) σ Q := u_get (w := (3, 3)) d4_63 rfl
theorem d4_66 : decode (mB 4) 66 = .ok (.iload_n 2, 1) := by decide +kernel
theorem u4_66 {d : Nat} {ls : Lo} {st : List Va} {σ : Sg} {Q : Rs → Sg → Prop} : Wx d 4 66 ls st σ Q ↔ Li (lget ls 2) (fun z => Wx d 4 67 ls (vi z :: st) σ Q) := u_iload_n d4_66
theorem d4_67 : decode (mB 4) 67 = .ok (.iaload, 1) := by decide +kernel
theorem u4_67 {d : Nat} {ls : Lo} {st : List Va} {σ : Sg} {Q : Rs → Sg → Prop} {z : Int} {g j : Nat} : Wx d 4 67 ls (vi z :: vr g j :: st) σ Q ↔ On (ial σ g j z) (fun x => Wx d 4 68 ls (vi x :: st) σ Q) := u_iald d4_67
theorem d4_68 : decode (mB 4) 68 = .ok (.iadd, 1) := by decide +kernel
theorem u4_68 {d : Nat} {ls : Lo} {st : List Va} {σ : Sg} {Q : Rs → Sg → Prop} {a b : Int} : Wx d 4 68 ls (vi b :: vi a :: st) σ Q ↔ Wx d 4 69 ls (vi (a + b) :: st) σ Q := u_iadd d4_68
theorem d4_69 : decode (mB 4) 69 = .ok (.istore 4, 2) := by decide +kernel
theorem u4_69 {d : Nat} {ls : Lo} {st : List Va} {σ : Sg} {Q : Rs → Sg → Prop} {z : Int} : Wx d 4 69 ls (vi z :: st) σ Q ↔ Wx d 4 71 (lset ls 4 (vi z)) st σ Q := u_istore d4_69 (by decide)
theorem d4_71 : decode (mB 4) 71 = .ok (.iload_n 2, 1) := by decide +kernel
theorem u4_71 {d : Nat} {ls : Lo} {st : List Va} {σ : Sg} {Q : Rs → Sg → Prop} : Wx d 4 71 ls st σ Q ↔ Li (lget ls 2) (fun z => Wx d 4 72 ls (vi z :: st) σ Q) := u_iload_n d4_71
theorem d4_72 : decode (mB 4) 72 = .ok (.aload_n 3, 1) := by decide +kernel
theorem u4_72 {d : Nat} {ls : Lo} {st : List Va} {σ : Sg} {Q : Rs → Sg → Prop} : Wx d 4 72 ls st σ Q ↔ Lr (lget ls 3) (fun z => Wx d 4 73 ls (.inr (.inl z) :: st) σ Q) := u_aload_n d4_72
theorem d4_73 : decode (mB 4) 73 = .ok (.getfield 126, 3) := by decide +kernel
theorem u4_73 {d : Nat} {ls : Lo} {st : List Va} {σ : Sg} {Q : Rs → Sg → Prop} {g j : Nat} : Wx d 4 73 ls (vr g j :: st) σ Q ↔ isO g j 3 ∧ Wx d 4 76 ls (fvv σ g j 11 :: st) σ Q := u_get (w := (3, 11)) d4_73 rfl
theorem d4_76 : decode (mB 4) 76 = .ok (.if_icmp .ne 11, 3) := by decide +kernel
theorem u4_76 {d : Nat} {ls : Lo} {st : List Va} {σ : Sg} {Q : Rs → Sg → Prop} {a b : Int} (h : -2147483648 ≤ a ∧ a ≤ 2147483647) (h2 : -2147483648 ≤ b ∧ b ≤ 2147483647) : Wx d 4 76 ls (vi b :: vi a :: st) σ Q ↔ if ¬ a = b then Wx d 4 87 ls st σ Q else Wx d 4 79 ls st σ Q := u_icne d4_76 (by decide) h h2
theorem d4_79 : decode (mB 4) 79 = .ok (.iload 4, 2) := by decide +kernel
theorem u4_79 {d : Nat} {ls : Lo} {st : List Va} {σ : Sg} {Q : Rs → Sg → Prop} : Wx d 4 79 ls st σ Q ↔ Li (lget ls 4) (fun z => Wx d 4 81 ls (vi z :: st) σ Q) := u_iload d4_79
theorem d4_81 : decode (mB 4) 81 = .ok (.bipush 100, 2) := by decide +kernel
theorem u4_81 {d : Nat} {ls : Lo} {st : List Va} {σ : Sg} {Q : Rs → Sg → Prop} : Wx d 4 81 ls st σ Q ↔ Wx d 4 83 ls (vi 100 :: st) σ Q := u_bipush d4_81 (by decide)
theorem d4_83 : decode (mB 4) 83 = .ok (.iadd, 1) := by decide +kernel
theorem u4_83 {d : Nat} {ls : Lo} {st : List Va} {σ : Sg} {Q : Rs → Sg → Prop} {a b : Int} : Wx d 4 83 ls (vi b :: vi a :: st) σ Q ↔ Wx d 4 84 ls (vi (a + b) :: st) σ Q := u_iadd d4_83
theorem d4_84 : decode (mB 4) 84 = .ok (.goto 5, 3) := by decide +kernel
theorem u4_84 {d : Nat} {ls : Lo} {st : List Va} {σ : Sg} {Q : Rs → Sg → Prop} : Wx d 4 84 ls st σ Q ↔ Wx d 4 89 ls st σ Q := u_goto d4_84 (by decide)
theorem d4_87 : decode (mB 4) 87 = .ok (.iload 4, 2) := by decide +kernel
theorem u4_87 {d : Nat} {ls : Lo} {st : List Va} {σ : Sg} {Q : Rs → Sg → Prop} : Wx d 4 87 ls st σ Q ↔ Li (lget ls 4) (fun z => Wx d 4 89 ls (vi z :: st) σ Q) := u_iload d4_87
theorem d4_89 : decode (mB 4) 89 = .ok (.ireturn, 1) := by decide +kernel
theorem u4_89 {d : Nat} {ls : Lo} {σ : Sg} {Q : Rs → Sg → Prop} {z : Int} : Wx d 4 89 ls [vi z] σ Q ↔ Q (.inl (some (vi z))) σ := u_iret d4_89 rfl
/-! 5: FiguredBass.places(I)I -/
theorem d5_0 : decode (mB 5) 0 = .ok (.aload_n 0, 1) := by decide +kernel
theorem u5_0 {d : Nat} {ls : Lo} {st : List Va} {σ : Sg} {Q : Rs → Sg → Prop} : Wx d 5 0 ls st σ Q ↔ Lr (lget ls 0) (fun z => Wx d 5 1 ls (.inr (.inl z) :: st) σ Q) := u_aload_n d5_0
theorem d5_1 : decode (mB 5) 1 = .ok (.iload_n 1, 1) := by decide +kernel
theorem u5_1 {d : Nat} {ls : Lo} {st : List Va} {σ : Sg} {Q : Rs → Sg → Prop} : Wx d 5 1 ls st σ Q ↔ Li (lget ls 1) (fun z => Wx d 5 2 ls (vi z :: st) σ Q) := u_iload_n d5_1
theorem d5_2 : decode (mB 5) 2 = .ok (.bipush 8, 2) := by decide +kernel
theorem u5_2 {d : Nat} {ls : Lo} {st : List Va} {σ : Sg} {Q : Rs → Sg → Prop} : Wx d 5 2 ls st σ Q ↔ Wx d 5 4 ls (vi 8 :: st) σ Q := u_bipush d5_2 (by decide)
theorem d5_4 : decode (mB 5) 4 = .ok (.invokevirtual 61, 3) := by decide +kernel
theorem u5_4 {d : Nat} {ls : Lo} {st : List Va} {σ : Sg} {Q : Rs → Sg → Prop} {g j : Nat} {a1 a2 : Va} : Wx (d + 1) 5 4 ls (a2 :: a1 :: vr g j :: st) σ Q ↔ (isO g j 0 ∧ st.length ≤ 4 ∧ nlg [a2, a1] = true) ∧ Wm d 13 [vr g j, a1, a2] σ (Kc (d + 1) 5 7 ls st Q) := u_inv2 d5_4 rfl rfl rfl
theorem d5_7 : decode (mB 5) 7 = .ok (.aload_n 0, 1) := by decide +kernel
theorem u5_7 {d : Nat} {ls : Lo} {st : List Va} {σ : Sg} {Q : Rs → Sg → Prop} : Wx d 5 7 ls st σ Q ↔ Lr (lget ls 0) (fun z => Wx d 5 8 ls (.inr (.inl z) :: st) σ Q) := u_aload_n d5_7
theorem d5_8 : decode (mB 5) 8 = .ok (.iload_n 1, 1) := by decide +kernel
theorem u5_8 {d : Nat} {ls : Lo} {st : List Va} {σ : Sg} {Q : Rs → Sg → Prop} : Wx d 5 8 ls st σ Q ↔ Li (lget ls 1) (fun z => Wx d 5 9 ls (vi z :: st) σ Q) := u_iload_n d5_8
theorem d5_9 : decode (mB 5) 9 = .ok (.invokevirtual 129, 3) := by decide +kernel
theorem u5_9 {d : Nat} {ls : Lo} {st : List Va} {σ : Sg} {Q : Rs → Sg → Prop} {g j : Nat} {a1 : Va} : Wx (d + 1) 5 9 ls (a1 :: vr g j :: st) σ Q ↔ (isO g j 0 ∧ st.length ≤ 4 ∧ nlg [a1] = true) ∧ Wm d 15 [vr g j, a1] σ (Kc (d + 1) 5 12 ls st Q) := u_inv1 d5_9 rfl rfl rfl
theorem d5_12 : decode (mB 5) 12 = .ok (.aload_n 0, 1) := by decide +kernel
theorem u5_12 {d : Nat} {ls : Lo} {st : List Va} {σ : Sg} {Q : Rs → Sg → Prop} : Wx d 5 12 ls st σ Q ↔ Lr (lget ls 0) (fun z => Wx d 5 13 ls (.inr (.inl z) :: st) σ Q) := u_aload_n d5_12
theorem d5_13 : decode (mB 5) 13 = .ok (.getfield 18, 3) := by decide +kernel
theorem u5_13 {d : Nat} {ls : Lo} {st : List Va} {σ : Sg} {Q : Rs → Sg → Prop} {g j : Nat} : Wx d 5 13 ls (vr g j :: st) σ Q ↔ isO g j 0 ∧ Wx d 5 16 ls (fvv σ g j 1 :: st) σ Q := u_get (w := (0, 1)) d5_13 rfl
theorem d5_16 : decode (mB 5) 16 = .ok (.iload_n 1, 1) := by decide +kernel
theorem u5_16 {d : Nat} {ls : Lo} {st : List Va} {σ : Sg} {Q : Rs → Sg → Prop} : Wx d 5 16 ls st σ Q ↔ Li (lget ls 1) (fun z => Wx d 5 17 ls (vi z :: st) σ Q) := u_iload_n d5_16
theorem d5_17 : decode (mB 5) 17 = .ok (.aaload, 1) := by decide +kernel
theorem u5_17 {d : Nat} {ls : Lo} {st : List Va} {σ : Sg} {Q : Rs → Sg → Prop} {z : Int} {g j : Nat} : Wx d 5 17 ls (vi z :: vr g j :: st) σ Q ↔ (isA g j 2 z ∨ isA g j 3 z) ∧ On (rf g j z.toNat) (fun w => Wx d 5 18 ls (.inr (.inl w) :: st) σ Q) := u_aald d5_17
theorem d5_18 : decode (mB 5) 18 = .ok (.invokevirtual 133, 3) := by decide +kernel
theorem u5_18 {d : Nat} {ls : Lo} {st : List Va} {σ : Sg} {Q : Rs → Sg → Prop} {g j : Nat} : Wx (d + 1) 5 18 ls (vr g j :: st) σ Q ↔ (isO g j 3 ∧ st.length ≤ 4 ∧ nlg [] = true) ∧ Wm d 38 [vr g j] σ (Kc (d + 1) 5 21 ls st Q) := u_inv0 d5_18 rfl rfl rfl
theorem d5_21 : decode (mB 5) 21 = .ok (.aload_n 0, 1) := by decide +kernel
theorem u5_21 {d : Nat} {ls : Lo} {st : List Va} {σ : Sg} {Q : Rs → Sg → Prop} : Wx d 5 21 ls st σ Q ↔ Lr (lget ls 0) (fun z => Wx d 5 22 ls (.inr (.inl z) :: st) σ Q) := u_aload_n d5_21
theorem d5_22 : decode (mB 5) 22 = .ok (.getfield 18, 3) := by decide +kernel
theorem u5_22 {d : Nat} {ls : Lo} {st : List Va} {σ : Sg} {Q : Rs → Sg → Prop} {g j : Nat} : Wx d 5 22 ls (vr g j :: st) σ Q ↔ isO g j 0 ∧ Wx d 5 25 ls (fvv σ g j 1 :: st) σ Q := u_get (w := (0, 1)) d5_22 rfl
theorem d5_25 : decode (mB 5) 25 = .ok (.iload_n 1, 1) := by decide +kernel
theorem u5_25 {d : Nat} {ls : Lo} {st : List Va} {σ : Sg} {Q : Rs → Sg → Prop} : Wx d 5 25 ls st σ Q ↔ Li (lget ls 1) (fun z => Wx d 5 26 ls (vi z :: st) σ Q) := u_iload_n d5_25
theorem d5_26 : decode (mB 5) 26 = .ok (.aaload, 1) := by decide +kernel
theorem u5_26 {d : Nat} {ls : Lo} {st : List Va} {σ : Sg} {Q : Rs → Sg → Prop} {z : Int} {g j : Nat} : Wx d 5 26 ls (vi z :: vr g j :: st) σ Q ↔ (isA g j 2 z ∨ isA g j 3 z) ∧ On (rf g j z.toNat) (fun w => Wx d 5 27 ls (.inr (.inl w) :: st) σ Q) := u_aald d5_26
theorem d5_27 : decode (mB 5) 27 = .ok (.getfield 136, 3) := by decide +kernel
theorem u5_27 {d : Nat} {ls : Lo} {st : List Va} {σ : Sg} {Q : Rs → Sg → Prop} {g j : Nat} : Wx d 5 27 ls (vr g j :: st) σ Q ↔ isO g j 3 ∧ Wx d 5 30 ls (fvv σ g j 16 :: st) σ Q := u_get (w := (3, 16)) d5_27 rfl
theorem d5_30 : decode (mB 5) 30 = .ok (.ireturn, 1) := by decide +kernel
theorem u5_30 {d : Nat} {ls : Lo} {σ : Sg} {Q : Rs → Sg → Prop} {z : Int} : Wx d 5 30 ls [vi z] σ Q ↔ Q (.inl (some (vi z))) σ := u_iret d5_30 rfl
/-! 6: FiguredBass.place(III)I -/
theorem d6_0 : decode (mB 6) 0 = .ok (.aload_n 0, 1) := by decide +kernel
theorem u6_0 {d : Nat} {ls : Lo} {st : List Va} {σ : Sg} {Q : Rs → Sg → Prop} : Wx d 6 0 ls st σ Q ↔ Lr (lget ls 0) (fun z => Wx d 6 1 ls (.inr (.inl z) :: st) σ Q) := u_aload_n d6_0
theorem d6_1 : decode (mB 6) 1 = .ok (.iload_n 1, 1) := by decide +kernel
theorem u6_1 {d : Nat} {ls : Lo} {st : List Va} {σ : Sg} {Q : Rs → Sg → Prop} : Wx d 6 1 ls st σ Q ↔ Li (lget ls 1) (fun z => Wx d 6 2 ls (vi z :: st) σ Q) := u_iload_n d6_1
theorem d6_2 : decode (mB 6) 2 = .ok (.bipush 8, 2) := by decide +kernel
theorem u6_2 {d : Nat} {ls : Lo} {st : List Va} {σ : Sg} {Q : Rs → Sg → Prop} : Wx d 6 2 ls st σ Q ↔ Wx d 6 4 ls (vi 8 :: st) σ Q := u_bipush d6_2 (by decide)
theorem d6_4 : decode (mB 6) 4 = .ok (.invokevirtual 61, 3) := by decide +kernel
theorem u6_4 {d : Nat} {ls : Lo} {st : List Va} {σ : Sg} {Q : Rs → Sg → Prop} {g j : Nat} {a1 a2 : Va} : Wx (d + 1) 6 4 ls (a2 :: a1 :: vr g j :: st) σ Q ↔ (isO g j 0 ∧ st.length ≤ 4 ∧ nlg [a2, a1] = true) ∧ Wm d 13 [vr g j, a1, a2] σ (Kc (d + 1) 6 7 ls st Q) := u_inv2 d6_4 rfl rfl rfl
theorem d6_7 : decode (mB 6) 7 = .ok (.aload_n 0, 1) := by decide +kernel
theorem u6_7 {d : Nat} {ls : Lo} {st : List Va} {σ : Sg} {Q : Rs → Sg → Prop} : Wx d 6 7 ls st σ Q ↔ Lr (lget ls 0) (fun z => Wx d 6 8 ls (.inr (.inl z) :: st) σ Q) := u_aload_n d6_7
theorem d6_8 : decode (mB 6) 8 = .ok (.iload_n 3, 1) := by decide +kernel
theorem u6_8 {d : Nat} {ls : Lo} {st : List Va} {σ : Sg} {Q : Rs → Sg → Prop} : Wx d 6 8 ls st σ Q ↔ Li (lget ls 3) (fun z => Wx d 6 9 ls (vi z :: st) σ Q) := u_iload_n d6_8
theorem d6_9 : decode (mB 6) 9 = .ok (.iconst 3, 1) := by decide +kernel
theorem u6_9 {d : Nat} {ls : Lo} {st : List Va} {σ : Sg} {Q : Rs → Sg → Prop} : Wx d 6 9 ls st σ Q ↔ Wx d 6 10 ls (vi 3 :: st) σ Q := u_iconst d6_9
theorem d6_10 : decode (mB 6) 10 = .ok (.invokevirtual 139, 3) := by decide +kernel
theorem u6_10 {d : Nat} {ls : Lo} {st : List Va} {σ : Sg} {Q : Rs → Sg → Prop} {g j : Nat} {a1 a2 : Va} : Wx (d + 1) 6 10 ls (a2 :: a1 :: vr g j :: st) σ Q ↔ (isO g j 0 ∧ st.length ≤ 4 ∧ nlg [a2, a1] = true) ∧ Wm d 14 [vr g j, a1, a2] σ (Kc (d + 1) 6 13 ls st Q) := u_inv2 d6_10 rfl rfl rfl
theorem d6_13 : decode (mB 6) 13 = .ok (.aload_n 0, 1) := by decide +kernel
theorem u6_13 {d : Nat} {ls : Lo} {st : List Va} {σ : Sg} {Q : Rs → Sg → Prop} : Wx d 6 13 ls st σ Q ↔ Lr (lget ls 0) (fun z => Wx d 6 14 ls (.inr (.inl z) :: st) σ Q) := u_aload_n d6_13
theorem d6_14 : decode (mB 6) 14 = .ok (.iload_n 1, 1) := by decide +kernel
theorem u6_14 {d : Nat} {ls : Lo} {st : List Va} {σ : Sg} {Q : Rs → Sg → Prop} : Wx d 6 14 ls st σ Q ↔ Li (lget ls 1) (fun z => Wx d 6 15 ls (vi z :: st) σ Q) := u_iload_n d6_14
theorem d6_15 : decode (mB 6) 15 = .ok (.invokevirtual 129, 3) := by decide +kernel
theorem u6_15 {d : Nat} {ls : Lo} {st : List Va} {σ : Sg} {Q : Rs → Sg → Prop} {g j : Nat} {a1 : Va} : Wx (d + 1) 6 15 ls (a1 :: vr g j :: st) σ Q ↔ (isO g j 0 ∧ st.length ≤ 4 ∧ nlg [a1] = true) ∧ Wm d 15 [vr g j, a1] σ (Kc (d + 1) 6 18 ls st Q) := u_inv1 d6_15 rfl rfl rfl
theorem d6_18 : decode (mB 6) 18 = .ok (.aload_n 0, 1) := by decide +kernel
theorem u6_18 {d : Nat} {ls : Lo} {st : List Va} {σ : Sg} {Q : Rs → Sg → Prop} : Wx d 6 18 ls st σ Q ↔ Lr (lget ls 0) (fun z => Wx d 6 19 ls (.inr (.inl z) :: st) σ Q) := u_aload_n d6_18
theorem d6_19 : decode (mB 6) 19 = .ok (.getfield 18, 3) := by decide +kernel
theorem u6_19 {d : Nat} {ls : Lo} {st : List Va} {σ : Sg} {Q : Rs → Sg → Prop} {g j : Nat} : Wx d 6 19 ls (vr g j :: st) σ Q ↔ isO g j 0 ∧ Wx d 6 22 ls (fvv σ g j 1 :: st) σ Q := u_get (w := (0, 1)) d6_19 rfl
theorem d6_22 : decode (mB 6) 22 = .ok (.iload_n 1, 1) := by decide +kernel
theorem u6_22 {d : Nat} {ls : Lo} {st : List Va} {σ : Sg} {Q : Rs → Sg → Prop} : Wx d 6 22 ls st σ Q ↔ Li (lget ls 1) (fun z => Wx d 6 23 ls (vi z :: st) σ Q) := u_iload_n d6_22
theorem d6_23 : decode (mB 6) 23 = .ok (.aaload, 1) := by decide +kernel
theorem u6_23 {d : Nat} {ls : Lo} {st : List Va} {σ : Sg} {Q : Rs → Sg → Prop} {z : Int} {g j : Nat} : Wx d 6 23 ls (vi z :: vr g j :: st) σ Q ↔ (isA g j 2 z ∨ isA g j 3 z) ∧ On (rf g j z.toNat) (fun w => Wx d 6 24 ls (.inr (.inl w) :: st) σ Q) := u_aald d6_23
theorem d6_24 : decode (mB 6) 24 = .ok (.invokevirtual 133, 3) := by decide +kernel
theorem u6_24 {d : Nat} {ls : Lo} {st : List Va} {σ : Sg} {Q : Rs → Sg → Prop} {g j : Nat} : Wx (d + 1) 6 24 ls (vr g j :: st) σ Q ↔ (isO g j 3 ∧ st.length ≤ 4 ∧ nlg [] = true) ∧ Wm d 38 [vr g j] σ (Kc (d + 1) 6 27 ls st Q) := u_inv0 d6_24 rfl rfl rfl
theorem d6_27 : decode (mB 6) 27 = .ok (.iload_n 2, 1) := by decide +kernel
theorem u6_27 {d : Nat} {ls : Lo} {st : List Va} {σ : Sg} {Q : Rs → Sg → Prop} : Wx d 6 27 ls st σ Q ↔ Li (lget ls 2) (fun z => Wx d 6 28 ls (vi z :: st) σ Q) := u_iload_n d6_27
theorem d6_28 : decode (mB 6) 28 = .ok (.ifCond .lt 16, 3) := by decide +kernel
theorem u6_28 {d : Nat} {ls : Lo} {st : List Va} {σ : Sg} {Q : Rs → Sg → Prop} {a : Int} (h : -2147483648 ≤ a ∧ a ≤ 2147483647) : Wx d 6 28 ls (vi a :: st) σ Q ↔ if a < 0 then Wx d 6 44 ls st σ Q else Wx d 6 31 ls st σ Q := u_iflt d6_28 (by decide) h
theorem d6_31 : decode (mB 6) 31 = .ok (.iload_n 2, 1) := by decide +kernel
theorem u6_31 {d : Nat} {ls : Lo} {st : List Va} {σ : Sg} {Q : Rs → Sg → Prop} : Wx d 6 31 ls st σ Q ↔ Li (lget ls 2) (fun z => Wx d 6 32 ls (vi z :: st) σ Q) := u_iload_n d6_31
theorem d6_32 : decode (mB 6) 32 = .ok (.aload_n 0, 1) := by decide +kernel
theorem u6_32 {d : Nat} {ls : Lo} {st : List Va} {σ : Sg} {Q : Rs → Sg → Prop} : Wx d 6 32 ls st σ Q ↔ Lr (lget ls 0) (fun z => Wx d 6 33 ls (.inr (.inl z) :: st) σ Q) := u_aload_n d6_32
theorem d6_33 : decode (mB 6) 33 = .ok (.getfield 18, 3) := by decide +kernel
theorem u6_33 {d : Nat} {ls : Lo} {st : List Va} {σ : Sg} {Q : Rs → Sg → Prop} {g j : Nat} : Wx d 6 33 ls (vr g j :: st) σ Q ↔ isO g j 0 ∧ Wx d 6 36 ls (fvv σ g j 1 :: st) σ Q := u_get (w := (0, 1)) d6_33 rfl
theorem d6_36 : decode (mB 6) 36 = .ok (.iload_n 1, 1) := by decide +kernel
theorem u6_36 {d : Nat} {ls : Lo} {st : List Va} {σ : Sg} {Q : Rs → Sg → Prop} : Wx d 6 36 ls st σ Q ↔ Li (lget ls 1) (fun z => Wx d 6 37 ls (vi z :: st) σ Q) := u_iload_n d6_36
theorem d6_37 : decode (mB 6) 37 = .ok (.aaload, 1) := by decide +kernel
theorem u6_37 {d : Nat} {ls : Lo} {st : List Va} {σ : Sg} {Q : Rs → Sg → Prop} {z : Int} {g j : Nat} : Wx d 6 37 ls (vi z :: vr g j :: st) σ Q ↔ (isA g j 2 z ∨ isA g j 3 z) ∧ On (rf g j z.toNat) (fun w => Wx d 6 38 ls (.inr (.inl w) :: st) σ Q) := u_aald d6_37
theorem d6_38 : decode (mB 6) 38 = .ok (.getfield 136, 3) := by decide +kernel
theorem u6_38 {d : Nat} {ls : Lo} {st : List Va} {σ : Sg} {Q : Rs → Sg → Prop} {g j : Nat} : Wx d 6 38 ls (vr g j :: st) σ Q ↔ isO g j 3 ∧ Wx d 6 41 ls (fvv σ g j 16 :: st) σ Q := u_get (w := (3, 16)) d6_38 rfl
theorem d6_41 : decode (mB 6) 41 = .ok (.if_icmp .lt 13, 3) := by decide +kernel
theorem u6_41 {d : Nat} {ls : Lo} {st : List Va} {σ : Sg} {Q : Rs → Sg → Prop} {a b : Int} (h : -2147483648 ≤ a ∧ a ≤ 2147483647) (h2 : -2147483648 ≤ b ∧ b ≤ 2147483647) : Wx d 6 41 ls (vi b :: vi a :: st) σ Q ↔ if a < b then Wx d 6 54 ls st σ Q else Wx d 6 44 ls st σ Q := u_iclt d6_41 (by decide) h h2
theorem d6_44 : decode (mB 6) 44 = .ok (.new 115, 3) := by decide +kernel
theorem u6_44 {d : Nat} {ls : Lo} {σ : Sg} {Q : Rs → Sg → Prop} : Wx d 6 44 ls [] σ Q ↔ Q (.inr 3) σ := u_throw d6_44 rfl
theorem d6_47 : decode (mB 6) 47 = .ok (.dup, 1) := by decide +kernel
theorem u6_47i {d : Nat} {ls : Lo} {st : List Va} {σ : Sg} {Q : Rs → Sg → Prop} {a : Int} : Wx d 6 47 ls (vi a :: st) σ Q ↔ Wx d 6 48 ls (vi a :: vi a :: st) σ Q := u_dupi d6_47
theorem u6_47r {d : Nat} {ls : Lo} {st : List Va} {σ : Sg} {Q : Rs → Sg → Prop} {g j : Nat} : Wx d 6 47 ls (vr g j :: st) σ Q ↔ Wx d 6 48 ls (vr g j :: vr g j :: st) σ Q := u_dupr d6_47
theorem d6_48 : decode (mB 6) 48 = .ok (.ldc 142, 2) := by decide +kernel
theorem d6_50 : decode (mB 6) 50 = .ok (.invokespecial 119, 3) := by decide +kernel
theorem d6_53 : decode (mB 6) 53 = .ok (.athrow, 1) := by decide +kernel
theorem d6_54 : decode (mB 6) 54 = .ok (.aload_n 0, 1) := by decide +kernel
theorem u6_54 {d : Nat} {ls : Lo} {st : List Va} {σ : Sg} {Q : Rs → Sg → Prop} : Wx d 6 54 ls st σ Q ↔ Lr (lget ls 0) (fun z => Wx d 6 55 ls (.inr (.inl z) :: st) σ Q) := u_aload_n d6_54
theorem d6_55 : decode (mB 6) 55 = .ok (.getfield 18, 3) := by decide +kernel
theorem u6_55 {d : Nat} {ls : Lo} {st : List Va} {σ : Sg} {Q : Rs → Sg → Prop} {g j : Nat} : Wx d 6 55 ls (vr g j :: st) σ Q ↔ isO g j 0 ∧ Wx d 6 58 ls (fvv σ g j 1 :: st) σ Q := u_get (w := (0, 1)) d6_55 rfl
theorem d6_58 : decode (mB 6) 58 = .ok (.iload_n 1, 1) := by decide +kernel
theorem u6_58 {d : Nat} {ls : Lo} {st : List Va} {σ : Sg} {Q : Rs → Sg → Prop} : Wx d 6 58 ls st σ Q ↔ Li (lget ls 1) (fun z => Wx d 6 59 ls (vi z :: st) σ Q) := u_iload_n d6_58
theorem d6_59 : decode (mB 6) 59 = .ok (.aaload, 1) := by decide +kernel
theorem u6_59 {d : Nat} {ls : Lo} {st : List Va} {σ : Sg} {Q : Rs → Sg → Prop} {z : Int} {g j : Nat} : Wx d 6 59 ls (vi z :: vr g j :: st) σ Q ↔ (isA g j 2 z ∨ isA g j 3 z) ∧ On (rf g j z.toNat) (fun w => Wx d 6 60 ls (.inr (.inl w) :: st) σ Q) := u_aald d6_59
theorem d6_60 : decode (mB 6) 60 = .ok (.iload_n 2, 1) := by decide +kernel
theorem u6_60 {d : Nat} {ls : Lo} {st : List Va} {σ : Sg} {Q : Rs → Sg → Prop} : Wx d 6 60 ls st σ Q ↔ Li (lget ls 2) (fun z => Wx d 6 61 ls (vi z :: st) σ Q) := u_iload_n d6_60
theorem d6_61 : decode (mB 6) 61 = .ok (.iload_n 3, 1) := by decide +kernel
theorem u6_61 {d : Nat} {ls : Lo} {st : List Va} {σ : Sg} {Q : Rs → Sg → Prop} : Wx d 6 61 ls st σ Q ↔ Li (lget ls 3) (fun z => Wx d 6 62 ls (vi z :: st) σ Q) := u_iload_n d6_61
theorem d6_62 : decode (mB 6) 62 = .ok (.invokevirtual 144, 3) := by decide +kernel
theorem u6_62 {d : Nat} {ls : Lo} {st : List Va} {σ : Sg} {Q : Rs → Sg → Prop} {g j : Nat} {a1 a2 : Va} : Wx (d + 1) 6 62 ls (a2 :: a1 :: vr g j :: st) σ Q ↔ (isO g j 3 ∧ st.length ≤ 4 ∧ nlg [a2, a1] = true) ∧ Wm d 43 [vr g j, a1, a2] σ (Kc (d + 1) 6 65 ls st Q) := u_inv2 d6_62 rfl rfl rfl
theorem d6_65 : decode (mB 6) 65 = .ok (.ireturn, 1) := by decide +kernel
theorem u6_65 {d : Nat} {ls : Lo} {σ : Sg} {Q : Rs → Sg → Prop} {z : Int} : Wx d 6 65 ls [vi z] σ Q ↔ Q (.inl (some (vi z))) σ := u_iret d6_65 rfl
/-! 7: FiguredBass.realise()I -/
theorem d7_0 : decode (mB 7) 0 = .ok (.aload_n 0, 1) := by decide +kernel
theorem u7_0 {d : Nat} {ls : Lo} {st : List Va} {σ : Sg} {Q : Rs → Sg → Prop} : Wx d 7 0 ls st σ Q ↔ Lr (lget ls 0) (fun z => Wx d 7 1 ls (.inr (.inl z) :: st) σ Q) := u_aload_n d7_0
theorem d7_1 : decode (mB 7) 1 = .ok (.invokevirtual 148, 3) := by decide +kernel
theorem u7_1 {d : Nat} {ls : Lo} {st : List Va} {σ : Sg} {Q : Rs → Sg → Prop} {g j : Nat} : Wx (d + 1) 7 1 ls (vr g j :: st) σ Q ↔ (isO g j 0 ∧ st.length ≤ 4 ∧ nlg [] = true) ∧ Wm d 16 [vr g j] σ (Kc (d + 1) 7 4 ls st Q) := u_inv0 d7_1 rfl rfl rfl
theorem d7_4 : decode (mB 7) 4 = .ok (.iconst 0, 1) := by decide +kernel
theorem u7_4 {d : Nat} {ls : Lo} {st : List Va} {σ : Sg} {Q : Rs → Sg → Prop} : Wx d 7 4 ls st σ Q ↔ Wx d 7 5 ls (vi 0 :: st) σ Q := u_iconst d7_4
theorem d7_5 : decode (mB 7) 5 = .ok (.istore_n 1, 1) := by decide +kernel
theorem u7_5 {d : Nat} {ls : Lo} {st : List Va} {σ : Sg} {Q : Rs → Sg → Prop} {z : Int} : Wx d 7 5 ls (vi z :: st) σ Q ↔ Wx d 7 6 (lset ls 1 (vi z)) st σ Q := u_istore_n d7_5 (by decide)
theorem d7_6 : decode (mB 7) 6 = .ok (.iload_n 1, 1) := by decide +kernel
theorem u7_6 {d : Nat} {ls : Lo} {st : List Va} {σ : Sg} {Q : Rs → Sg → Prop} : Wx d 7 6 ls st σ Q ↔ Li (lget ls 1) (fun z => Wx d 7 7 ls (vi z :: st) σ Q) := u_iload_n d7_6
theorem d7_7 : decode (mB 7) 7 = .ok (.aload_n 0, 1) := by decide +kernel
theorem u7_7 {d : Nat} {ls : Lo} {st : List Va} {σ : Sg} {Q : Rs → Sg → Prop} : Wx d 7 7 ls st σ Q ↔ Lr (lget ls 0) (fun z => Wx d 7 8 ls (.inr (.inl z) :: st) σ Q) := u_aload_n d7_7
theorem d7_8 : decode (mB 7) 8 = .ok (.getfield 36, 3) := by decide +kernel
theorem u7_8 {d : Nat} {ls : Lo} {st : List Va} {σ : Sg} {Q : Rs → Sg → Prop} {g j : Nat} : Wx d 7 8 ls (vr g j :: st) σ Q ↔ isO g j 0 ∧ Wx d 7 11 ls (fvv σ g j 4 :: st) σ Q := u_get (w := (0, 4)) d7_8 rfl
theorem d7_11 : decode (mB 7) 11 = .ok (.if_icmp .ge 18, 3) := by decide +kernel
theorem u7_11 {d : Nat} {ls : Lo} {st : List Va} {σ : Sg} {Q : Rs → Sg → Prop} {a b : Int} (h : -2147483648 ≤ a ∧ a ≤ 2147483647) (h2 : -2147483648 ≤ b ∧ b ≤ 2147483647) : Wx d 7 11 ls (vi b :: vi a :: st) σ Q ↔ if b ≤ a then Wx d 7 29 ls st σ Q else Wx d 7 14 ls st σ Q := u_icge d7_11 (by decide) h h2
theorem d7_14 : decode (mB 7) 14 = .ok (.aload_n 0, 1) := by decide +kernel
theorem u7_14 {d : Nat} {ls : Lo} {st : List Va} {σ : Sg} {Q : Rs → Sg → Prop} : Wx d 7 14 ls st σ Q ↔ Lr (lget ls 0) (fun z => Wx d 7 15 ls (.inr (.inl z) :: st) σ Q) := u_aload_n d7_14
theorem d7_15 : decode (mB 7) 15 = .ok (.getfield 18, 3) := by decide +kernel
theorem u7_15 {d : Nat} {ls : Lo} {st : List Va} {σ : Sg} {Q : Rs → Sg → Prop} {g j : Nat} : Wx d 7 15 ls (vr g j :: st) σ Q ↔ isO g j 0 ∧ Wx d 7 18 ls (fvv σ g j 1 :: st) σ Q := u_get (w := (0, 1)) d7_15 rfl
theorem d7_18 : decode (mB 7) 18 = .ok (.iload_n 1, 1) := by decide +kernel
theorem u7_18 {d : Nat} {ls : Lo} {st : List Va} {σ : Sg} {Q : Rs → Sg → Prop} : Wx d 7 18 ls st σ Q ↔ Li (lget ls 1) (fun z => Wx d 7 19 ls (vi z :: st) σ Q) := u_iload_n d7_18
theorem d7_19 : decode (mB 7) 19 = .ok (.aaload, 1) := by decide +kernel
theorem u7_19 {d : Nat} {ls : Lo} {st : List Va} {σ : Sg} {Q : Rs → Sg → Prop} {z : Int} {g j : Nat} : Wx d 7 19 ls (vi z :: vr g j :: st) σ Q ↔ (isA g j 2 z ∨ isA g j 3 z) ∧ On (rf g j z.toNat) (fun w => Wx d 7 20 ls (.inr (.inl w) :: st) σ Q) := u_aald d7_19
theorem d7_20 : decode (mB 7) 20 = .ok (.invokevirtual 133, 3) := by decide +kernel
theorem u7_20 {d : Nat} {ls : Lo} {st : List Va} {σ : Sg} {Q : Rs → Sg → Prop} {g j : Nat} : Wx (d + 1) 7 20 ls (vr g j :: st) σ Q ↔ (isO g j 3 ∧ st.length ≤ 4 ∧ nlg [] = true) ∧ Wm d 38 [vr g j] σ (Kc (d + 1) 7 23 ls st Q) := u_inv0 d7_20 rfl rfl rfl
theorem d7_23 : decode (mB 7) 23 = .ok (.iinc 1 1, 3) := by decide +kernel
theorem u7_23 {d : Nat} {ls : Lo} {st : List Va} {σ : Sg} {Q : Rs → Sg → Prop} : Wx d 7 23 ls st σ Q ↔ Li (lget ls 1) (fun z => Wx d 7 26 (lset ls 1 (vi (z + 1))) st σ Q) := u_iinc d7_23 (by decide)
theorem d7_26 : decode (mB 7) 26 = .ok (.goto (-20), 3) := by decide +kernel
theorem u7_26 {d : Nat} {ls : Lo} {st : List Va} {σ : Sg} {Q : Rs → Sg → Prop} : Wx d 7 26 ls st σ Q ↔ Wx d 7 6 ls st σ Q := u_goto d7_26 (by decide)
theorem d7_29 : decode (mB 7) 29 = .ok (.aload_n 0, 1) := by decide +kernel
theorem u7_29 {d : Nat} {ls : Lo} {st : List Va} {σ : Sg} {Q : Rs → Sg → Prop} : Wx d 7 29 ls st σ Q ↔ Lr (lget ls 0) (fun z => Wx d 7 30 ls (.inr (.inl z) :: st) σ Q) := u_aload_n d7_29
theorem d7_30 : decode (mB 7) 30 = .ok (.getfield 25, 3) := by decide +kernel
theorem u7_30 {d : Nat} {ls : Lo} {st : List Va} {σ : Sg} {Q : Rs → Sg → Prop} {g j : Nat} : Wx d 7 30 ls (vr g j :: st) σ Q ↔ isO g j 0 ∧ Wx d 7 33 ls (fvv σ g j 2 :: st) σ Q := u_get (w := (0, 2)) d7_30 rfl
theorem d7_33 : decode (mB 7) 33 = .ok (.aload_n 0, 1) := by decide +kernel
theorem u7_33 {d : Nat} {ls : Lo} {st : List Va} {σ : Sg} {Q : Rs → Sg → Prop} : Wx d 7 33 ls st σ Q ↔ Lr (lget ls 0) (fun z => Wx d 7 34 ls (.inr (.inl z) :: st) σ Q) := u_aload_n d7_33
theorem d7_34 : decode (mB 7) 34 = .ok (.getfield 18, 3) := by decide +kernel
theorem u7_34 {d : Nat} {ls : Lo} {st : List Va} {σ : Sg} {Q : Rs → Sg → Prop} {g j : Nat} : Wx d 7 34 ls (vr g j :: st) σ Q ↔ isO g j 0 ∧ Wx d 7 37 ls (fvv σ g j 1 :: st) σ Q := u_get (w := (0, 1)) d7_34 rfl
theorem d7_37 : decode (mB 7) 37 = .ok (.aload_n 0, 1) := by decide +kernel
theorem u7_37 {d : Nat} {ls : Lo} {st : List Va} {σ : Sg} {Q : Rs → Sg → Prop} : Wx d 7 37 ls st σ Q ↔ Lr (lget ls 0) (fun z => Wx d 7 38 ls (.inr (.inl z) :: st) σ Q) := u_aload_n d7_37
theorem d7_38 : decode (mB 7) 38 = .ok (.getfield 36, 3) := by decide +kernel
theorem u7_38 {d : Nat} {ls : Lo} {st : List Va} {σ : Sg} {Q : Rs → Sg → Prop} {g j : Nat} : Wx d 7 38 ls (vr g j :: st) σ Q ↔ isO g j 0 ∧ Wx d 7 41 ls (fvv σ g j 4 :: st) σ Q := u_get (w := (0, 4)) d7_38 rfl
theorem d7_41 : decode (mB 7) 41 = .ok (.invokevirtual 151, 3) := by decide +kernel
theorem u7_41 {d : Nat} {ls : Lo} {st : List Va} {σ : Sg} {Q : Rs → Sg → Prop} {g j : Nat} {a1 a2 : Va} : Wx (d + 1) 7 41 ls (a2 :: a1 :: vr g j :: st) σ Q ↔ (isO g j 5 ∧ st.length ≤ 4 ∧ nlg [a2, a1] = true) ∧ Wm d 56 [vr g j, a1, a2] σ (Kc (d + 1) 7 44 ls st Q) := u_inv2 d7_41 rfl rfl rfl
theorem d7_44 : decode (mB 7) 44 = .ok (.istore_n 1, 1) := by decide +kernel
theorem u7_44 {d : Nat} {ls : Lo} {st : List Va} {σ : Sg} {Q : Rs → Sg → Prop} {z : Int} : Wx d 7 44 ls (vi z :: st) σ Q ↔ Wx d 7 45 (lset ls 1 (vi z)) st σ Q := u_istore_n d7_44 (by decide)
theorem d7_45 : decode (mB 7) 45 = .ok (.iload_n 1, 1) := by decide +kernel
theorem u7_45 {d : Nat} {ls : Lo} {st : List Va} {σ : Sg} {Q : Rs → Sg → Prop} : Wx d 7 45 ls st σ Q ↔ Li (lget ls 1) (fun z => Wx d 7 46 ls (vi z :: st) σ Q) := u_iload_n d7_45
theorem d7_46 : decode (mB 7) 46 = .ok (.iconst (-1), 1) := by decide +kernel
theorem u7_46 {d : Nat} {ls : Lo} {st : List Va} {σ : Sg} {Q : Rs → Sg → Prop} : Wx d 7 46 ls st σ Q ↔ Wx d 7 47 ls (vi (-1) :: st) σ Q := u_iconst d7_46
theorem d7_47 : decode (mB 7) 47 = .ok (.if_icmp .ne 23, 3) := by decide +kernel
theorem u7_47 {d : Nat} {ls : Lo} {st : List Va} {σ : Sg} {Q : Rs → Sg → Prop} {a b : Int} (h : -2147483648 ≤ a ∧ a ≤ 2147483647) (h2 : -2147483648 ≤ b ∧ b ≤ 2147483647) : Wx d 7 47 ls (vi b :: vi a :: st) σ Q ↔ if ¬ a = b then Wx d 7 70 ls st σ Q else Wx d 7 50 ls st σ Q := u_icne d7_47 (by decide) h h2
theorem d7_50 : decode (mB 7) 50 = .ok (.iconst (-1), 1) := by decide +kernel
theorem u7_50 {d : Nat} {ls : Lo} {st : List Va} {σ : Sg} {Q : Rs → Sg → Prop} : Wx d 7 50 ls st σ Q ↔ Wx d 7 51 ls (vi (-1) :: st) σ Q := u_iconst d7_50
theorem d7_51 : decode (mB 7) 51 = .ok (.aload_n 0, 1) := by decide +kernel
theorem u7_51 {d : Nat} {ls : Lo} {st : List Va} {σ : Sg} {Q : Rs → Sg → Prop} : Wx d 7 51 ls st σ Q ↔ Lr (lget ls 0) (fun z => Wx d 7 52 ls (.inr (.inl z) :: st) σ Q) := u_aload_n d7_51
theorem d7_52 : decode (mB 7) 52 = .ok (.getfield 25, 3) := by decide +kernel
theorem u7_52 {d : Nat} {ls : Lo} {st : List Va} {σ : Sg} {Q : Rs → Sg → Prop} {g j : Nat} : Wx d 7 52 ls (vr g j :: st) σ Q ↔ isO g j 0 ∧ Wx d 7 55 ls (fvv σ g j 2 :: st) σ Q := u_get (w := (0, 2)) d7_52 rfl
theorem d7_55 : decode (mB 7) 55 = .ok (.aload_n 0, 1) := by decide +kernel
theorem u7_55 {d : Nat} {ls : Lo} {st : List Va} {σ : Sg} {Q : Rs → Sg → Prop} : Wx d 7 55 ls st σ Q ↔ Lr (lget ls 0) (fun z => Wx d 7 56 ls (.inr (.inl z) :: st) σ Q) := u_aload_n d7_55
theorem d7_56 : decode (mB 7) 56 = .ok (.getfield 18, 3) := by decide +kernel
theorem u7_56 {d : Nat} {ls : Lo} {st : List Va} {σ : Sg} {Q : Rs → Sg → Prop} {g j : Nat} : Wx d 7 56 ls (vr g j :: st) σ Q ↔ isO g j 0 ∧ Wx d 7 59 ls (fvv σ g j 1 :: st) σ Q := u_get (w := (0, 1)) d7_56 rfl
theorem d7_59 : decode (mB 7) 59 = .ok (.aload_n 0, 1) := by decide +kernel
theorem u7_59 {d : Nat} {ls : Lo} {st : List Va} {σ : Sg} {Q : Rs → Sg → Prop} : Wx d 7 59 ls st σ Q ↔ Lr (lget ls 0) (fun z => Wx d 7 60 ls (.inr (.inl z) :: st) σ Q) := u_aload_n d7_59
theorem d7_60 : decode (mB 7) 60 = .ok (.getfield 36, 3) := by decide +kernel
theorem u7_60 {d : Nat} {ls : Lo} {st : List Va} {σ : Sg} {Q : Rs → Sg → Prop} {g j : Nat} : Wx d 7 60 ls (vr g j :: st) σ Q ↔ isO g j 0 ∧ Wx d 7 63 ls (fvv σ g j 4 :: st) σ Q := u_get (w := (0, 4)) d7_60 rfl
theorem d7_63 : decode (mB 7) 63 = .ok (.invokevirtual 154, 3) := by decide +kernel
theorem u7_63 {d : Nat} {ls : Lo} {st : List Va} {σ : Sg} {Q : Rs → Sg → Prop} {g j : Nat} {a1 a2 : Va} : Wx (d + 1) 7 63 ls (a2 :: a1 :: vr g j :: st) σ Q ↔ (isO g j 5 ∧ st.length ≤ 4 ∧ nlg [a2, a1] = true) ∧ Wm d 60 [vr g j, a1, a2] σ (Kc (d + 1) 7 66 ls st Q) := u_inv2 d7_63 rfl rfl rfl
theorem d7_66 : decode (mB 7) 66 = .ok (.isub, 1) := by decide +kernel
theorem u7_66 {d : Nat} {ls : Lo} {st : List Va} {σ : Sg} {Q : Rs → Sg → Prop} {a b : Int} : Wx d 7 66 ls (vi b :: vi a :: st) σ Q ↔ Wx d 7 67 ls (vi (a - b) :: st) σ Q := u_isub d7_66
theorem d7_67 : decode (mB 7) 67 = .ok (.goto 4, 3) := by decide +kernel
theorem u7_67 {d : Nat} {ls : Lo} {st : List Va} {σ : Sg} {Q : Rs → Sg → Prop} : Wx d 7 67 ls st σ Q ↔ Wx d 7 71 ls st σ Q := u_goto d7_67 (by decide)
theorem d7_70 : decode (mB 7) 70 = .ok (.iload_n 1, 1) := by decide +kernel
theorem u7_70 {d : Nat} {ls : Lo} {st : List Va} {σ : Sg} {Q : Rs → Sg → Prop} : Wx d 7 70 ls st σ Q ↔ Li (lget ls 1) (fun z => Wx d 7 71 ls (vi z :: st) σ Q) := u_iload_n d7_70
theorem d7_71 : decode (mB 7) 71 = .ok (.ireturn, 1) := by decide +kernel
theorem u7_71 {d : Nat} {ls : Lo} {σ : Sg} {Q : Rs → Sg → Prop} {z : Int} : Wx d 7 71 ls [vi z] σ Q ↔ Q (.inl (some (vi z))) σ := u_iret d7_71 rfl
/-! 8: FiguredBass.note(II)I -/
theorem d8_0 : decode (mB 8) 0 = .ok (.aload_n 0, 1) := by decide +kernel
theorem u8_0 {d : Nat} {ls : Lo} {st : List Va} {σ : Sg} {Q : Rs → Sg → Prop} : Wx d 8 0 ls st σ Q ↔ Lr (lget ls 0) (fun z => Wx d 8 1 ls (.inr (.inl z) :: st) σ Q) := u_aload_n d8_0
theorem d8_1 : decode (mB 8) 1 = .ok (.iload_n 2, 1) := by decide +kernel
theorem u8_1 {d : Nat} {ls : Lo} {st : List Va} {σ : Sg} {Q : Rs → Sg → Prop} : Wx d 8 1 ls st σ Q ↔ Li (lget ls 2) (fun z => Wx d 8 2 ls (vi z :: st) σ Q) := u_iload_n d8_1
theorem d8_2 : decode (mB 8) 2 = .ok (.iconst 4, 1) := by decide +kernel
theorem u8_2 {d : Nat} {ls : Lo} {st : List Va} {σ : Sg} {Q : Rs → Sg → Prop} : Wx d 8 2 ls st σ Q ↔ Wx d 8 3 ls (vi 4 :: st) σ Q := u_iconst d8_2
theorem d8_3 : decode (mB 8) 3 = .ok (.invokevirtual 139, 3) := by decide +kernel
theorem u8_3 {d : Nat} {ls : Lo} {st : List Va} {σ : Sg} {Q : Rs → Sg → Prop} {g j : Nat} {a1 a2 : Va} : Wx (d + 1) 8 3 ls (a2 :: a1 :: vr g j :: st) σ Q ↔ (isO g j 0 ∧ st.length ≤ 4 ∧ nlg [a2, a1] = true) ∧ Wm d 14 [vr g j, a1, a2] σ (Kc (d + 1) 8 6 ls st Q) := u_inv2 d8_3 rfl rfl rfl
theorem d8_6 : decode (mB 8) 6 = .ok (.aload_n 0, 1) := by decide +kernel
theorem u8_6 {d : Nat} {ls : Lo} {st : List Va} {σ : Sg} {Q : Rs → Sg → Prop} : Wx d 8 6 ls st σ Q ↔ Lr (lget ls 0) (fun z => Wx d 8 7 ls (.inr (.inl z) :: st) σ Q) := u_aload_n d8_6
theorem d8_7 : decode (mB 8) 7 = .ok (.iload_n 1, 1) := by decide +kernel
theorem u8_7 {d : Nat} {ls : Lo} {st : List Va} {σ : Sg} {Q : Rs → Sg → Prop} : Wx d 8 7 ls st σ Q ↔ Li (lget ls 1) (fun z => Wx d 8 8 ls (vi z :: st) σ Q) := u_iload_n d8_7
theorem d8_8 : decode (mB 8) 8 = .ok (.aload_n 0, 1) := by decide +kernel
theorem u8_8 {d : Nat} {ls : Lo} {st : List Va} {σ : Sg} {Q : Rs → Sg → Prop} : Wx d 8 8 ls st σ Q ↔ Lr (lget ls 0) (fun z => Wx d 8 9 ls (.inr (.inl z) :: st) σ Q) := u_aload_n d8_8
theorem d8_9 : decode (mB 8) 9 = .ok (.getfield 36, 3) := by decide +kernel
theorem u8_9 {d : Nat} {ls : Lo} {st : List Va} {σ : Sg} {Q : Rs → Sg → Prop} {g j : Nat} : Wx d 8 9 ls (vr g j :: st) σ Q ↔ isO g j 0 ∧ Wx d 8 12 ls (fvv σ g j 4 :: st) σ Q := u_get (w := (0, 4)) d8_9 rfl
theorem d8_12 : decode (mB 8) 12 = .ok (.invokevirtual 61, 3) := by decide +kernel
theorem u8_12 {d : Nat} {ls : Lo} {st : List Va} {σ : Sg} {Q : Rs → Sg → Prop} {g j : Nat} {a1 a2 : Va} : Wx (d + 1) 8 12 ls (a2 :: a1 :: vr g j :: st) σ Q ↔ (isO g j 0 ∧ st.length ≤ 4 ∧ nlg [a2, a1] = true) ∧ Wm d 13 [vr g j, a1, a2] σ (Kc (d + 1) 8 15 ls st Q) := u_inv2 d8_12 rfl rfl rfl
theorem d8_15 : decode (mB 8) 15 = .ok (.aload_n 0, 1) := by decide +kernel
theorem u8_15 {d : Nat} {ls : Lo} {st : List Va} {σ : Sg} {Q : Rs → Sg → Prop} : Wx d 8 15 ls st σ Q ↔ Lr (lget ls 0) (fun z => Wx d 8 16 ls (.inr (.inl z) :: st) σ Q) := u_aload_n d8_15
theorem d8_16 : decode (mB 8) 16 = .ok (.invokevirtual 157, 3) := by decide +kernel
theorem u8_16 {d : Nat} {ls : Lo} {st : List Va} {σ : Sg} {Q : Rs → Sg → Prop} {g j : Nat} : Wx (d + 1) 8 16 ls (vr g j :: st) σ Q ↔ (isO g j 0 ∧ st.length ≤ 4 ∧ nlg [] = true) ∧ Wm d 17 [vr g j] σ (Kc (d + 1) 8 19 ls st Q) := u_inv0 d8_16 rfl rfl rfl
theorem d8_19 : decode (mB 8) 19 = .ok (.aload_n 0, 1) := by decide +kernel
theorem u8_19 {d : Nat} {ls : Lo} {st : List Va} {σ : Sg} {Q : Rs → Sg → Prop} : Wx d 8 19 ls st σ Q ↔ Lr (lget ls 0) (fun z => Wx d 8 20 ls (.inr (.inl z) :: st) σ Q) := u_aload_n d8_19
theorem d8_20 : decode (mB 8) 20 = .ok (.getfield 25, 3) := by decide +kernel
theorem u8_20 {d : Nat} {ls : Lo} {st : List Va} {σ : Sg} {Q : Rs → Sg → Prop} {g j : Nat} : Wx d 8 20 ls (vr g j :: st) σ Q ↔ isO g j 0 ∧ Wx d 8 23 ls (fvv σ g j 2 :: st) σ Q := u_get (w := (0, 2)) d8_20 rfl
theorem d8_23 : decode (mB 8) 23 = .ok (.aload_n 0, 1) := by decide +kernel
theorem u8_23 {d : Nat} {ls : Lo} {st : List Va} {σ : Sg} {Q : Rs → Sg → Prop} : Wx d 8 23 ls st σ Q ↔ Lr (lget ls 0) (fun z => Wx d 8 24 ls (.inr (.inl z) :: st) σ Q) := u_aload_n d8_23
theorem d8_24 : decode (mB 8) 24 = .ok (.getfield 18, 3) := by decide +kernel
theorem u8_24 {d : Nat} {ls : Lo} {st : List Va} {σ : Sg} {Q : Rs → Sg → Prop} {g j : Nat} : Wx d 8 24 ls (vr g j :: st) σ Q ↔ isO g j 0 ∧ Wx d 8 27 ls (fvv σ g j 1 :: st) σ Q := u_get (w := (0, 1)) d8_24 rfl
theorem d8_27 : decode (mB 8) 27 = .ok (.iload_n 1, 1) := by decide +kernel
theorem u8_27 {d : Nat} {ls : Lo} {st : List Va} {σ : Sg} {Q : Rs → Sg → Prop} : Wx d 8 27 ls st σ Q ↔ Li (lget ls 1) (fun z => Wx d 8 28 ls (vi z :: st) σ Q) := u_iload_n d8_27
theorem d8_28 : decode (mB 8) 28 = .ok (.iload_n 2, 1) := by decide +kernel
theorem u8_28 {d : Nat} {ls : Lo} {st : List Va} {σ : Sg} {Q : Rs → Sg → Prop} : Wx d 8 28 ls st σ Q ↔ Li (lget ls 2) (fun z => Wx d 8 29 ls (vi z :: st) σ Q) := u_iload_n d8_28
theorem d8_29 : decode (mB 8) 29 = .ok (.invokevirtual 160, 3) := by decide +kernel
theorem u8_29 {d : Nat} {ls : Lo} {st : List Va} {σ : Sg} {Q : Rs → Sg → Prop} {g j : Nat} {a1 a2 a3 : Va} : Wx (d + 1) 8 29 ls (a3 :: a2 :: a1 :: vr g j :: st) σ Q ↔ (isO g j 5 ∧ st.length ≤ 4 ∧ nlg [a3, a2, a1] = true) ∧ Wm d 64 [vr g j, a1, a2, a3] σ (Kc (d + 1) 8 32 ls st Q) := u_inv3 d8_29 rfl rfl rfl
theorem d8_32 : decode (mB 8) 32 = .ok (.ireturn, 1) := by decide +kernel
theorem u8_32 {d : Nat} {ls : Lo} {σ : Sg} {Q : Rs → Sg → Prop} {z : Int} : Wx d 8 32 ls [vi z] σ Q ↔ Q (.inl (some (vi z))) σ := u_iret d8_32 rfl
/-! 9: FiguredBass.cost(I)I -/
theorem d9_0 : decode (mB 9) 0 = .ok (.aload_n 0, 1) := by decide +kernel
theorem u9_0 {d : Nat} {ls : Lo} {st : List Va} {σ : Sg} {Q : Rs → Sg → Prop} : Wx d 9 0 ls st σ Q ↔ Lr (lget ls 0) (fun z => Wx d 9 1 ls (.inr (.inl z) :: st) σ Q) := u_aload_n d9_0
theorem d9_1 : decode (mB 9) 1 = .ok (.iload_n 1, 1) := by decide +kernel
theorem u9_1 {d : Nat} {ls : Lo} {st : List Va} {σ : Sg} {Q : Rs → Sg → Prop} : Wx d 9 1 ls st σ Q ↔ Li (lget ls 1) (fun z => Wx d 9 2 ls (vi z :: st) σ Q) := u_iload_n d9_1
theorem d9_2 : decode (mB 9) 2 = .ok (.aload_n 0, 1) := by decide +kernel
theorem u9_2 {d : Nat} {ls : Lo} {st : List Va} {σ : Sg} {Q : Rs → Sg → Prop} : Wx d 9 2 ls st σ Q ↔ Lr (lget ls 0) (fun z => Wx d 9 3 ls (.inr (.inl z) :: st) σ Q) := u_aload_n d9_2
theorem d9_3 : decode (mB 9) 3 = .ok (.getfield 36, 3) := by decide +kernel
theorem u9_3 {d : Nat} {ls : Lo} {st : List Va} {σ : Sg} {Q : Rs → Sg → Prop} {g j : Nat} : Wx d 9 3 ls (vr g j :: st) σ Q ↔ isO g j 0 ∧ Wx d 9 6 ls (fvv σ g j 4 :: st) σ Q := u_get (w := (0, 4)) d9_3 rfl
theorem d9_6 : decode (mB 9) 6 = .ok (.invokevirtual 61, 3) := by decide +kernel
theorem u9_6 {d : Nat} {ls : Lo} {st : List Va} {σ : Sg} {Q : Rs → Sg → Prop} {g j : Nat} {a1 a2 : Va} : Wx (d + 1) 9 6 ls (a2 :: a1 :: vr g j :: st) σ Q ↔ (isO g j 0 ∧ st.length ≤ 4 ∧ nlg [a2, a1] = true) ∧ Wm d 13 [vr g j, a1, a2] σ (Kc (d + 1) 9 9 ls st Q) := u_inv2 d9_6 rfl rfl rfl
theorem d9_9 : decode (mB 9) 9 = .ok (.aload_n 0, 1) := by decide +kernel
theorem u9_9 {d : Nat} {ls : Lo} {st : List Va} {σ : Sg} {Q : Rs → Sg → Prop} : Wx d 9 9 ls st σ Q ↔ Lr (lget ls 0) (fun z => Wx d 9 10 ls (.inr (.inl z) :: st) σ Q) := u_aload_n d9_9
theorem d9_10 : decode (mB 9) 10 = .ok (.invokevirtual 157, 3) := by decide +kernel
theorem u9_10 {d : Nat} {ls : Lo} {st : List Va} {σ : Sg} {Q : Rs → Sg → Prop} {g j : Nat} : Wx (d + 1) 9 10 ls (vr g j :: st) σ Q ↔ (isO g j 0 ∧ st.length ≤ 4 ∧ nlg [] = true) ∧ Wm d 17 [vr g j] σ (Kc (d + 1) 9 13 ls st Q) := u_inv0 d9_10 rfl rfl rfl
theorem d9_13 : decode (mB 9) 13 = .ok (.aload_n 0, 1) := by decide +kernel
theorem u9_13 {d : Nat} {ls : Lo} {st : List Va} {σ : Sg} {Q : Rs → Sg → Prop} : Wx d 9 13 ls st σ Q ↔ Lr (lget ls 0) (fun z => Wx d 9 14 ls (.inr (.inl z) :: st) σ Q) := u_aload_n d9_13
theorem d9_14 : decode (mB 9) 14 = .ok (.getfield 25, 3) := by decide +kernel
theorem u9_14 {d : Nat} {ls : Lo} {st : List Va} {σ : Sg} {Q : Rs → Sg → Prop} {g j : Nat} : Wx d 9 14 ls (vr g j :: st) σ Q ↔ isO g j 0 ∧ Wx d 9 17 ls (fvv σ g j 2 :: st) σ Q := u_get (w := (0, 2)) d9_14 rfl
theorem d9_17 : decode (mB 9) 17 = .ok (.aload_n 0, 1) := by decide +kernel
theorem u9_17 {d : Nat} {ls : Lo} {st : List Va} {σ : Sg} {Q : Rs → Sg → Prop} : Wx d 9 17 ls st σ Q ↔ Lr (lget ls 0) (fun z => Wx d 9 18 ls (.inr (.inl z) :: st) σ Q) := u_aload_n d9_17
theorem d9_18 : decode (mB 9) 18 = .ok (.getfield 18, 3) := by decide +kernel
theorem u9_18 {d : Nat} {ls : Lo} {st : List Va} {σ : Sg} {Q : Rs → Sg → Prop} {g j : Nat} : Wx d 9 18 ls (vr g j :: st) σ Q ↔ isO g j 0 ∧ Wx d 9 21 ls (fvv σ g j 1 :: st) σ Q := u_get (w := (0, 1)) d9_18 rfl
theorem d9_21 : decode (mB 9) 21 = .ok (.iload_n 1, 1) := by decide +kernel
theorem u9_21 {d : Nat} {ls : Lo} {st : List Va} {σ : Sg} {Q : Rs → Sg → Prop} : Wx d 9 21 ls st σ Q ↔ Li (lget ls 1) (fun z => Wx d 9 22 ls (vi z :: st) σ Q) := u_iload_n d9_21
theorem d9_22 : decode (mB 9) 22 = .ok (.invokevirtual 163, 3) := by decide +kernel
theorem u9_22 {d : Nat} {ls : Lo} {st : List Va} {σ : Sg} {Q : Rs → Sg → Prop} {g j : Nat} {a1 a2 : Va} : Wx (d + 1) 9 22 ls (a2 :: a1 :: vr g j :: st) σ Q ↔ (isO g j 5 ∧ st.length ≤ 4 ∧ nlg [a2, a1] = true) ∧ Wm d 65 [vr g j, a1, a2] σ (Kc (d + 1) 9 25 ls st Q) := u_inv2 d9_22 rfl rfl rfl
theorem d9_25 : decode (mB 9) 25 = .ok (.ireturn, 1) := by decide +kernel
theorem u9_25 {d : Nat} {ls : Lo} {σ : Sg} {Q : Rs → Sg → Prop} {z : Int} : Wx d 9 25 ls [vi z] σ Q ↔ Q (.inl (some (vi z))) σ := u_iret d9_25 rfl
/-! 10: FiguredBass.pupil(III)V -/
theorem d10_0 : decode (mB 10) 0 = .ok (.aload_n 0, 1) := by decide +kernel
theorem u10_0 {d : Nat} {ls : Lo} {st : List Va} {σ : Sg} {Q : Rs → Sg → Prop} : Wx d 10 0 ls st σ Q ↔ Lr (lget ls 0) (fun z => Wx d 10 1 ls (.inr (.inl z) :: st) σ Q) := u_aload_n d10_0
theorem d10_1 : decode (mB 10) 1 = .ok (.iload_n 1, 1) := by decide +kernel
theorem u10_1 {d : Nat} {ls : Lo} {st : List Va} {σ : Sg} {Q : Rs → Sg → Prop} : Wx d 10 1 ls st σ Q ↔ Li (lget ls 1) (fun z => Wx d 10 2 ls (vi z :: st) σ Q) := u_iload_n d10_1
theorem d10_2 : decode (mB 10) 2 = .ok (.bipush 8, 2) := by decide +kernel
theorem u10_2 {d : Nat} {ls : Lo} {st : List Va} {σ : Sg} {Q : Rs → Sg → Prop} : Wx d 10 2 ls st σ Q ↔ Wx d 10 4 ls (vi 8 :: st) σ Q := u_bipush d10_2 (by decide)
theorem d10_4 : decode (mB 10) 4 = .ok (.invokevirtual 61, 3) := by decide +kernel
theorem u10_4 {d : Nat} {ls : Lo} {st : List Va} {σ : Sg} {Q : Rs → Sg → Prop} {g j : Nat} {a1 a2 : Va} : Wx (d + 1) 10 4 ls (a2 :: a1 :: vr g j :: st) σ Q ↔ (isO g j 0 ∧ st.length ≤ 4 ∧ nlg [a2, a1] = true) ∧ Wm d 13 [vr g j, a1, a2] σ (Kc (d + 1) 10 7 ls st Q) := u_inv2 d10_4 rfl rfl rfl
theorem d10_7 : decode (mB 10) 7 = .ok (.aload_n 0, 1) := by decide +kernel
theorem u10_7 {d : Nat} {ls : Lo} {st : List Va} {σ : Sg} {Q : Rs → Sg → Prop} : Wx d 10 7 ls st σ Q ↔ Lr (lget ls 0) (fun z => Wx d 10 8 ls (.inr (.inl z) :: st) σ Q) := u_aload_n d10_7
theorem d10_8 : decode (mB 10) 8 = .ok (.iload_n 2, 1) := by decide +kernel
theorem u10_8 {d : Nat} {ls : Lo} {st : List Va} {σ : Sg} {Q : Rs → Sg → Prop} : Wx d 10 8 ls st σ Q ↔ Li (lget ls 2) (fun z => Wx d 10 9 ls (vi z :: st) σ Q) := u_iload_n d10_8
theorem d10_9 : decode (mB 10) 9 = .ok (.iconst 3, 1) := by decide +kernel
theorem u10_9 {d : Nat} {ls : Lo} {st : List Va} {σ : Sg} {Q : Rs → Sg → Prop} : Wx d 10 9 ls st σ Q ↔ Wx d 10 10 ls (vi 3 :: st) σ Q := u_iconst d10_9
theorem d10_10 : decode (mB 10) 10 = .ok (.invokevirtual 139, 3) := by decide +kernel
theorem u10_10 {d : Nat} {ls : Lo} {st : List Va} {σ : Sg} {Q : Rs → Sg → Prop} {g j : Nat} {a1 a2 : Va} : Wx (d + 1) 10 10 ls (a2 :: a1 :: vr g j :: st) σ Q ↔ (isO g j 0 ∧ st.length ≤ 4 ∧ nlg [a2, a1] = true) ∧ Wm d 14 [vr g j, a1, a2] σ (Kc (d + 1) 10 13 ls st Q) := u_inv2 d10_10 rfl rfl rfl
theorem d10_13 : decode (mB 10) 13 = .ok (.iload_n 3, 1) := by decide +kernel
theorem u10_13 {d : Nat} {ls : Lo} {st : List Va} {σ : Sg} {Q : Rs → Sg → Prop} : Wx d 10 13 ls st σ Q ↔ Li (lget ls 3) (fun z => Wx d 10 14 ls (vi z :: st) σ Q) := u_iload_n d10_13
theorem d10_14 : decode (mB 10) 14 = .ok (.ifCond .lt 9, 3) := by decide +kernel
theorem u10_14 {d : Nat} {ls : Lo} {st : List Va} {σ : Sg} {Q : Rs → Sg → Prop} {a : Int} (h : -2147483648 ≤ a ∧ a ≤ 2147483647) : Wx d 10 14 ls (vi a :: st) σ Q ↔ if a < 0 then Wx d 10 23 ls st σ Q else Wx d 10 17 ls st σ Q := u_iflt d10_14 (by decide) h
theorem d10_17 : decode (mB 10) 17 = .ok (.iload_n 3, 1) := by decide +kernel
theorem u10_17 {d : Nat} {ls : Lo} {st : List Va} {σ : Sg} {Q : Rs → Sg → Prop} : Wx d 10 17 ls st σ Q ↔ Li (lget ls 3) (fun z => Wx d 10 18 ls (vi z :: st) σ Q) := u_iload_n d10_17
theorem d10_18 : decode (mB 10) 18 = .ok (.bipush 127, 2) := by decide +kernel
theorem u10_18 {d : Nat} {ls : Lo} {st : List Va} {σ : Sg} {Q : Rs → Sg → Prop} : Wx d 10 18 ls st σ Q ↔ Wx d 10 20 ls (vi 127 :: st) σ Q := u_bipush d10_18 (by decide)
theorem d10_20 : decode (mB 10) 20 = .ok (.if_icmp .le 13, 3) := by decide +kernel
theorem u10_20 {d : Nat} {ls : Lo} {st : List Va} {σ : Sg} {Q : Rs → Sg → Prop} {a b : Int} (h : -2147483648 ≤ a ∧ a ≤ 2147483647) (h2 : -2147483648 ≤ b ∧ b ≤ 2147483647) : Wx d 10 20 ls (vi b :: vi a :: st) σ Q ↔ if a ≤ b then Wx d 10 33 ls st σ Q else Wx d 10 23 ls st σ Q := u_icle d10_20 (by decide) h h2
theorem d10_23 : decode (mB 10) 23 = .ok (.new 41, 3) := by decide +kernel
theorem u10_23 {d : Nat} {ls : Lo} {σ : Sg} {Q : Rs → Sg → Prop} : Wx d 10 23 ls [] σ Q ↔ Q (.inr 1) σ := u_throw d10_23 rfl
theorem d10_26 : decode (mB 10) 26 = .ok (.dup, 1) := by decide +kernel
theorem u10_26i {d : Nat} {ls : Lo} {st : List Va} {σ : Sg} {Q : Rs → Sg → Prop} {a : Int} : Wx d 10 26 ls (vi a :: st) σ Q ↔ Wx d 10 27 ls (vi a :: vi a :: st) σ Q := u_dupi d10_26
theorem u10_26r {d : Nat} {ls : Lo} {st : List Va} {σ : Sg} {Q : Rs → Sg → Prop} {g j : Nat} : Wx d 10 26 ls (vr g j :: st) σ Q ↔ Wx d 10 27 ls (vr g j :: vr g j :: st) σ Q := u_dupr d10_26
theorem d10_27 : decode (mB 10) 27 = .ok (.ldc 166, 2) := by decide +kernel
theorem d10_29 : decode (mB 10) 29 = .ok (.invokespecial 45, 3) := by decide +kernel
theorem d10_32 : decode (mB 10) 32 = .ok (.athrow, 1) := by decide +kernel
theorem d10_33 : decode (mB 10) 33 = .ok (.aload_n 0, 1) := by decide +kernel
theorem u10_33 {d : Nat} {ls : Lo} {st : List Va} {σ : Sg} {Q : Rs → Sg → Prop} : Wx d 10 33 ls st σ Q ↔ Lr (lget ls 0) (fun z => Wx d 10 34 ls (.inr (.inl z) :: st) σ Q) := u_aload_n d10_33
theorem d10_34 : decode (mB 10) 34 = .ok (.getfield 18, 3) := by decide +kernel
theorem u10_34 {d : Nat} {ls : Lo} {st : List Va} {σ : Sg} {Q : Rs → Sg → Prop} {g j : Nat} : Wx d 10 34 ls (vr g j :: st) σ Q ↔ isO g j 0 ∧ Wx d 10 37 ls (fvv σ g j 1 :: st) σ Q := u_get (w := (0, 1)) d10_34 rfl
theorem d10_37 : decode (mB 10) 37 = .ok (.iload_n 1, 1) := by decide +kernel
theorem u10_37 {d : Nat} {ls : Lo} {st : List Va} {σ : Sg} {Q : Rs → Sg → Prop} : Wx d 10 37 ls st σ Q ↔ Li (lget ls 1) (fun z => Wx d 10 38 ls (vi z :: st) σ Q) := u_iload_n d10_37
theorem d10_38 : decode (mB 10) 38 = .ok (.aaload, 1) := by decide +kernel
theorem u10_38 {d : Nat} {ls : Lo} {st : List Va} {σ : Sg} {Q : Rs → Sg → Prop} {z : Int} {g j : Nat} : Wx d 10 38 ls (vi z :: vr g j :: st) σ Q ↔ (isA g j 2 z ∨ isA g j 3 z) ∧ On (rf g j z.toNat) (fun w => Wx d 10 39 ls (.inr (.inl w) :: st) σ Q) := u_aald d10_38
theorem d10_39 : decode (mB 10) 39 = .ok (.getfield 168, 3) := by decide +kernel
theorem u10_39 {d : Nat} {ls : Lo} {st : List Va} {σ : Sg} {Q : Rs → Sg → Prop} {g j : Nat} : Wx d 10 39 ls (vr g j :: st) σ Q ↔ isO g j 3 ∧ Wx d 10 42 ls (fvv σ g j 6 :: st) σ Q := u_get (w := (3, 6)) d10_39 rfl
theorem d10_42 : decode (mB 10) 42 = .ok (.iload_n 2, 1) := by decide +kernel
theorem u10_42 {d : Nat} {ls : Lo} {st : List Va} {σ : Sg} {Q : Rs → Sg → Prop} : Wx d 10 42 ls st σ Q ↔ Li (lget ls 2) (fun z => Wx d 10 43 ls (vi z :: st) σ Q) := u_iload_n d10_42
theorem d10_43 : decode (mB 10) 43 = .ok (.iload_n 3, 1) := by decide +kernel
theorem u10_43 {d : Nat} {ls : Lo} {st : List Va} {σ : Sg} {Q : Rs → Sg → Prop} : Wx d 10 43 ls st σ Q ↔ Li (lget ls 3) (fun z => Wx d 10 44 ls (vi z :: st) σ Q) := u_iload_n d10_43
theorem d10_44 : decode (mB 10) 44 = .ok (.iastore, 1) := by decide +kernel
theorem u10_44 {d : Nat} {ls : Lo} {st : List Va} {σ : Sg} {Q : Rs → Sg → Prop} {x z : Int} {g j : Nat} : Wx d 10 44 ls (vi x :: vi z :: vr g j :: st) σ Q ↔ isA g j 0 z ∧ Wx d 10 45 ls st (up σ g j z.toNat x) Q := u_iast d10_44
theorem d10_45 : decode (mB 10) 45 = .ok (.return_, 1) := by decide +kernel
theorem u10_45 {d : Nat} {ls : Lo} {σ : Sg} {Q : Rs → Sg → Prop} : Wx d 10 45 ls [] σ Q ↔ Q (.inl none) σ := u_vret d10_45 rfl
/-! 11: FiguredBass.faults()I -/
theorem d11_0 : decode (mB 11) 0 = .ok (.aload_n 0, 1) := by decide +kernel
theorem u11_0 {d : Nat} {ls : Lo} {st : List Va} {σ : Sg} {Q : Rs → Sg → Prop} : Wx d 11 0 ls st σ Q ↔ Lr (lget ls 0) (fun z => Wx d 11 1 ls (.inr (.inl z) :: st) σ Q) := u_aload_n d11_0
theorem d11_1 : decode (mB 11) 1 = .ok (.invokevirtual 148, 3) := by decide +kernel
theorem u11_1 {d : Nat} {ls : Lo} {st : List Va} {σ : Sg} {Q : Rs → Sg → Prop} {g j : Nat} : Wx (d + 1) 11 1 ls (vr g j :: st) σ Q ↔ (isO g j 0 ∧ st.length ≤ 4 ∧ nlg [] = true) ∧ Wm d 16 [vr g j] σ (Kc (d + 1) 11 4 ls st Q) := u_inv0 d11_1 rfl rfl rfl
theorem d11_4 : decode (mB 11) 4 = .ok (.aload_n 0, 1) := by decide +kernel
theorem u11_4 {d : Nat} {ls : Lo} {st : List Va} {σ : Sg} {Q : Rs → Sg → Prop} : Wx d 11 4 ls st σ Q ↔ Lr (lget ls 0) (fun z => Wx d 11 5 ls (.inr (.inl z) :: st) σ Q) := u_aload_n d11_4
theorem d11_5 : decode (mB 11) 5 = .ok (.getfield 32, 3) := by decide +kernel
theorem u11_5 {d : Nat} {ls : Lo} {st : List Va} {σ : Sg} {Q : Rs → Sg → Prop} {g j : Nat} : Wx d 11 5 ls (vr g j :: st) σ Q ↔ isO g j 0 ∧ Wx d 11 8 ls (fvv σ g j 3 :: st) σ Q := u_get (w := (0, 3)) d11_5 rfl
theorem d11_8 : decode (mB 11) 8 = .ok (.aload_n 0, 1) := by decide +kernel
theorem u11_8 {d : Nat} {ls : Lo} {st : List Va} {σ : Sg} {Q : Rs → Sg → Prop} : Wx d 11 8 ls st σ Q ↔ Lr (lget ls 0) (fun z => Wx d 11 9 ls (.inr (.inl z) :: st) σ Q) := u_aload_n d11_8
theorem d11_9 : decode (mB 11) 9 = .ok (.getfield 18, 3) := by decide +kernel
theorem u11_9 {d : Nat} {ls : Lo} {st : List Va} {σ : Sg} {Q : Rs → Sg → Prop} {g j : Nat} : Wx d 11 9 ls (vr g j :: st) σ Q ↔ isO g j 0 ∧ Wx d 11 12 ls (fvv σ g j 1 :: st) σ Q := u_get (w := (0, 1)) d11_9 rfl
theorem d11_12 : decode (mB 11) 12 = .ok (.aload_n 0, 1) := by decide +kernel
theorem u11_12 {d : Nat} {ls : Lo} {st : List Va} {σ : Sg} {Q : Rs → Sg → Prop} : Wx d 11 12 ls st σ Q ↔ Lr (lget ls 0) (fun z => Wx d 11 13 ls (.inr (.inl z) :: st) σ Q) := u_aload_n d11_12
theorem d11_13 : decode (mB 11) 13 = .ok (.getfield 36, 3) := by decide +kernel
theorem u11_13 {d : Nat} {ls : Lo} {st : List Va} {σ : Sg} {Q : Rs → Sg → Prop} {g j : Nat} : Wx d 11 13 ls (vr g j :: st) σ Q ↔ isO g j 0 ∧ Wx d 11 16 ls (fvv σ g j 4 :: st) σ Q := u_get (w := (0, 4)) d11_13 rfl
theorem d11_16 : decode (mB 11) 16 = .ok (.invokevirtual 171, 3) := by decide +kernel
theorem u11_16 {d : Nat} {ls : Lo} {st : List Va} {σ : Sg} {Q : Rs → Sg → Prop} {g j : Nat} {a1 a2 : Va} : Wx (d + 1) 11 16 ls (a2 :: a1 :: vr g j :: st) σ Q ↔ (isO g j 6 ∧ st.length ≤ 4 ∧ nlg [a2, a1] = true) ∧ Wm d 66 [vr g j, a1, a2] σ (Kc (d + 1) 11 19 ls st Q) := u_inv2 d11_16 rfl rfl rfl
theorem d11_19 : decode (mB 11) 19 = .ok (.ireturn, 1) := by decide +kernel
theorem u11_19 {d : Nat} {ls : Lo} {σ : Sg} {Q : Rs → Sg → Prop} {z : Int} : Wx d 11 19 ls [vi z] σ Q ↔ Q (.inl (some (vi z))) σ := u_iret d11_19 rfl
/-! 12: FiguredBass.fault(II)I -/
theorem d12_0 : decode (mB 12) 0 = .ok (.iload_n 1, 1) := by decide +kernel
theorem u12_0 {d : Nat} {ls : Lo} {st : List Va} {σ : Sg} {Q : Rs → Sg → Prop} : Wx d 12 0 ls st σ Q ↔ Li (lget ls 1) (fun z => Wx d 12 1 ls (vi z :: st) σ Q) := u_iload_n d12_0
theorem d12_1 : decode (mB 12) 1 = .ok (.ifCond .lt 14, 3) := by decide +kernel
theorem u12_1 {d : Nat} {ls : Lo} {st : List Va} {σ : Sg} {Q : Rs → Sg → Prop} {a : Int} (h : -2147483648 ≤ a ∧ a ≤ 2147483647) : Wx d 12 1 ls (vi a :: st) σ Q ↔ if a < 0 then Wx d 12 15 ls st σ Q else Wx d 12 4 ls st σ Q := u_iflt d12_1 (by decide) h
theorem d12_4 : decode (mB 12) 4 = .ok (.iload_n 1, 1) := by decide +kernel
theorem u12_4 {d : Nat} {ls : Lo} {st : List Va} {σ : Sg} {Q : Rs → Sg → Prop} : Wx d 12 4 ls st σ Q ↔ Li (lget ls 1) (fun z => Wx d 12 5 ls (vi z :: st) σ Q) := u_iload_n d12_4
theorem d12_5 : decode (mB 12) 5 = .ok (.aload_n 0, 1) := by decide +kernel
theorem u12_5 {d : Nat} {ls : Lo} {st : List Va} {σ : Sg} {Q : Rs → Sg → Prop} : Wx d 12 5 ls st σ Q ↔ Lr (lget ls 0) (fun z => Wx d 12 6 ls (.inr (.inl z) :: st) σ Q) := u_aload_n d12_5
theorem d12_6 : decode (mB 12) 6 = .ok (.getfield 32, 3) := by decide +kernel
theorem u12_6 {d : Nat} {ls : Lo} {st : List Va} {σ : Sg} {Q : Rs → Sg → Prop} {g j : Nat} : Wx d 12 6 ls (vr g j :: st) σ Q ↔ isO g j 0 ∧ Wx d 12 9 ls (fvv σ g j 3 :: st) σ Q := u_get (w := (0, 3)) d12_6 rfl
theorem d12_9 : decode (mB 12) 9 = .ok (.getfield 174, 3) := by decide +kernel
theorem u12_9 {d : Nat} {ls : Lo} {st : List Va} {σ : Sg} {Q : Rs → Sg → Prop} {g j : Nat} : Wx d 12 9 ls (vr g j :: st) σ Q ↔ isO g j 6 ∧ Wx d 12 12 ls (fvv σ g j 4 :: st) σ Q := u_get (w := (6, 4)) d12_9 rfl
theorem d12_12 : decode (mB 12) 12 = .ok (.if_icmp .lt 13, 3) := by decide +kernel
theorem u12_12 {d : Nat} {ls : Lo} {st : List Va} {σ : Sg} {Q : Rs → Sg → Prop} {a b : Int} (h : -2147483648 ≤ a ∧ a ≤ 2147483647) (h2 : -2147483648 ≤ b ∧ b ≤ 2147483647) : Wx d 12 12 ls (vi b :: vi a :: st) σ Q ↔ if a < b then Wx d 12 25 ls st σ Q else Wx d 12 15 ls st σ Q := u_iclt d12_12 (by decide) h h2
theorem d12_15 : decode (mB 12) 15 = .ok (.new 115, 3) := by decide +kernel
theorem u12_15 {d : Nat} {ls : Lo} {σ : Sg} {Q : Rs → Sg → Prop} : Wx d 12 15 ls [] σ Q ↔ Q (.inr 3) σ := u_throw d12_15 rfl
theorem d12_18 : decode (mB 12) 18 = .ok (.dup, 1) := by decide +kernel
theorem u12_18i {d : Nat} {ls : Lo} {st : List Va} {σ : Sg} {Q : Rs → Sg → Prop} {a : Int} : Wx d 12 18 ls (vi a :: st) σ Q ↔ Wx d 12 19 ls (vi a :: vi a :: st) σ Q := u_dupi d12_18
theorem u12_18r {d : Nat} {ls : Lo} {st : List Va} {σ : Sg} {Q : Rs → Sg → Prop} {g j : Nat} : Wx d 12 18 ls (vr g j :: st) σ Q ↔ Wx d 12 19 ls (vr g j :: vr g j :: st) σ Q := u_dupr d12_18
theorem d12_19 : decode (mB 12) 19 = .ok (.ldc 177, 2) := by decide +kernel
theorem d12_21 : decode (mB 12) 21 = .ok (.invokespecial 119, 3) := by decide +kernel
theorem d12_24 : decode (mB 12) 24 = .ok (.athrow, 1) := by decide +kernel
theorem d12_25 : decode (mB 12) 25 = .ok (.iload_n 2, 1) := by decide +kernel
theorem u12_25 {d : Nat} {ls : Lo} {st : List Va} {σ : Sg} {Q : Rs → Sg → Prop} : Wx d 12 25 ls st σ Q ↔ Li (lget ls 2) (fun z => Wx d 12 26 ls (vi z :: st) σ Q) := u_iload_n d12_25
theorem d12_26 : decode (mB 12) 26 = .ok (.ifCond .lt 8, 3) := by decide +kernel
theorem u12_26 {d : Nat} {ls : Lo} {st : List Va} {σ : Sg} {Q : Rs → Sg → Prop} {a : Int} (h : -2147483648 ≤ a ∧ a ≤ 2147483647) : Wx d 12 26 ls (vi a :: st) σ Q ↔ if a < 0 then Wx d 12 34 ls st σ Q else Wx d 12 29 ls st σ Q := u_iflt d12_26 (by decide) h
theorem d12_29 : decode (mB 12) 29 = .ok (.iload_n 2, 1) := by decide +kernel
theorem u12_29 {d : Nat} {ls : Lo} {st : List Va} {σ : Sg} {Q : Rs → Sg → Prop} : Wx d 12 29 ls st σ Q ↔ Li (lget ls 2) (fun z => Wx d 12 30 ls (vi z :: st) σ Q) := u_iload_n d12_29
theorem d12_30 : decode (mB 12) 30 = .ok (.iconst 2, 1) := by decide +kernel
theorem u12_30 {d : Nat} {ls : Lo} {st : List Va} {σ : Sg} {Q : Rs → Sg → Prop} : Wx d 12 30 ls st σ Q ↔ Wx d 12 31 ls (vi 2 :: st) σ Q := u_iconst d12_30
theorem d12_31 : decode (mB 12) 31 = .ok (.if_icmp .le 13, 3) := by decide +kernel
theorem u12_31 {d : Nat} {ls : Lo} {st : List Va} {σ : Sg} {Q : Rs → Sg → Prop} {a b : Int} (h : -2147483648 ≤ a ∧ a ≤ 2147483647) (h2 : -2147483648 ≤ b ∧ b ≤ 2147483647) : Wx d 12 31 ls (vi b :: vi a :: st) σ Q ↔ if a ≤ b then Wx d 12 44 ls st σ Q else Wx d 12 34 ls st σ Q := u_icle d12_31 (by decide) h h2
theorem d12_34 : decode (mB 12) 34 = .ok (.new 41, 3) := by decide +kernel
theorem u12_34 {d : Nat} {ls : Lo} {σ : Sg} {Q : Rs → Sg → Prop} : Wx d 12 34 ls [] σ Q ↔ Q (.inr 1) σ := u_throw d12_34 rfl
theorem d12_37 : decode (mB 12) 37 = .ok (.dup, 1) := by decide +kernel
theorem u12_37i {d : Nat} {ls : Lo} {st : List Va} {σ : Sg} {Q : Rs → Sg → Prop} {a : Int} : Wx d 12 37 ls (vi a :: st) σ Q ↔ Wx d 12 38 ls (vi a :: vi a :: st) σ Q := u_dupi d12_37
theorem u12_37r {d : Nat} {ls : Lo} {st : List Va} {σ : Sg} {Q : Rs → Sg → Prop} {g j : Nat} : Wx d 12 37 ls (vr g j :: st) σ Q ↔ Wx d 12 38 ls (vr g j :: vr g j :: st) σ Q := u_dupr d12_37
theorem d12_38 : decode (mB 12) 38 = .ok (.ldc 179, 2) := by decide +kernel
theorem d12_40 : decode (mB 12) 40 = .ok (.invokespecial 45, 3) := by decide +kernel
theorem d12_43 : decode (mB 12) 43 = .ok (.athrow, 1) := by decide +kernel
theorem d12_44 : decode (mB 12) 44 = .ok (.aload_n 0, 1) := by decide +kernel
theorem u12_44 {d : Nat} {ls : Lo} {st : List Va} {σ : Sg} {Q : Rs → Sg → Prop} : Wx d 12 44 ls st σ Q ↔ Lr (lget ls 0) (fun z => Wx d 12 45 ls (.inr (.inl z) :: st) σ Q) := u_aload_n d12_44
theorem d12_45 : decode (mB 12) 45 = .ok (.getfield 32, 3) := by decide +kernel
theorem u12_45 {d : Nat} {ls : Lo} {st : List Va} {σ : Sg} {Q : Rs → Sg → Prop} {g j : Nat} : Wx d 12 45 ls (vr g j :: st) σ Q ↔ isO g j 0 ∧ Wx d 12 48 ls (fvv σ g j 3 :: st) σ Q := u_get (w := (0, 3)) d12_45 rfl
theorem d12_48 : decode (mB 12) 48 = .ok (.iload_n 1, 1) := by decide +kernel
theorem u12_48 {d : Nat} {ls : Lo} {st : List Va} {σ : Sg} {Q : Rs → Sg → Prop} : Wx d 12 48 ls st σ Q ↔ Li (lget ls 1) (fun z => Wx d 12 49 ls (vi z :: st) σ Q) := u_iload_n d12_48
theorem d12_49 : decode (mB 12) 49 = .ok (.iload_n 2, 1) := by decide +kernel
theorem u12_49 {d : Nat} {ls : Lo} {st : List Va} {σ : Sg} {Q : Rs → Sg → Prop} : Wx d 12 49 ls st σ Q ↔ Li (lget ls 2) (fun z => Wx d 12 50 ls (vi z :: st) σ Q) := u_iload_n d12_49
theorem d12_50 : decode (mB 12) 50 = .ok (.invokevirtual 181, 3) := by decide +kernel
theorem u12_50 {d : Nat} {ls : Lo} {st : List Va} {σ : Sg} {Q : Rs → Sg → Prop} {g j : Nat} {a1 a2 : Va} : Wx (d + 1) 12 50 ls (a2 :: a1 :: vr g j :: st) σ Q ↔ (isO g j 6 ∧ st.length ≤ 4 ∧ nlg [a2, a1] = true) ∧ Wm d 67 [vr g j, a1, a2] σ (Kc (d + 1) 12 53 ls st Q) := u_inv2 d12_50 rfl rfl rfl
theorem d12_53 : decode (mB 12) 53 = .ok (.ireturn, 1) := by decide +kernel
theorem u12_53 {d : Nat} {ls : Lo} {σ : Sg} {Q : Rs → Sg → Prop} {z : Int} : Wx d 12 53 ls [vi z] σ Q ↔ Q (.inl (some (vi z))) σ := u_iret d12_53 rfl
/-! 13: FiguredBass.checkChord(II)V -/
theorem d13_0 : decode (mB 13) 0 = .ok (.iload_n 1, 1) := by decide +kernel
theorem u13_0 {d : Nat} {ls : Lo} {st : List Va} {σ : Sg} {Q : Rs → Sg → Prop} : Wx d 13 0 ls st σ Q ↔ Li (lget ls 1) (fun z => Wx d 13 1 ls (vi z :: st) σ Q) := u_iload_n d13_0
theorem d13_1 : decode (mB 13) 1 = .ok (.ifCond .lt 8, 3) := by decide +kernel
theorem u13_1 {d : Nat} {ls : Lo} {st : List Va} {σ : Sg} {Q : Rs → Sg → Prop} {a : Int} (h : -2147483648 ≤ a ∧ a ≤ 2147483647) : Wx d 13 1 ls (vi a :: st) σ Q ↔ if a < 0 then Wx d 13 9 ls st σ Q else Wx d 13 4 ls st σ Q := u_iflt d13_1 (by decide) h
theorem d13_4 : decode (mB 13) 4 = .ok (.iload_n 1, 1) := by decide +kernel
theorem u13_4 {d : Nat} {ls : Lo} {st : List Va} {σ : Sg} {Q : Rs → Sg → Prop} : Wx d 13 4 ls st σ Q ↔ Li (lget ls 1) (fun z => Wx d 13 5 ls (vi z :: st) σ Q) := u_iload_n d13_4
theorem d13_5 : decode (mB 13) 5 = .ok (.iload_n 2, 1) := by decide +kernel
theorem u13_5 {d : Nat} {ls : Lo} {st : List Va} {σ : Sg} {Q : Rs → Sg → Prop} : Wx d 13 5 ls st σ Q ↔ Li (lget ls 2) (fun z => Wx d 13 6 ls (vi z :: st) σ Q) := u_iload_n d13_5
theorem d13_6 : decode (mB 13) 6 = .ok (.if_icmp .lt 13, 3) := by decide +kernel
theorem u13_6 {d : Nat} {ls : Lo} {st : List Va} {σ : Sg} {Q : Rs → Sg → Prop} {a b : Int} (h : -2147483648 ≤ a ∧ a ≤ 2147483647) (h2 : -2147483648 ≤ b ∧ b ≤ 2147483647) : Wx d 13 6 ls (vi b :: vi a :: st) σ Q ↔ if a < b then Wx d 13 19 ls st σ Q else Wx d 13 9 ls st σ Q := u_iclt d13_6 (by decide) h h2
theorem d13_9 : decode (mB 13) 9 = .ok (.new 41, 3) := by decide +kernel
theorem u13_9 {d : Nat} {ls : Lo} {σ : Sg} {Q : Rs → Sg → Prop} : Wx d 13 9 ls [] σ Q ↔ Q (.inr 1) σ := u_throw d13_9 rfl
theorem d13_12 : decode (mB 13) 12 = .ok (.dup, 1) := by decide +kernel
theorem u13_12i {d : Nat} {ls : Lo} {st : List Va} {σ : Sg} {Q : Rs → Sg → Prop} {a : Int} : Wx d 13 12 ls (vi a :: st) σ Q ↔ Wx d 13 13 ls (vi a :: vi a :: st) σ Q := u_dupi d13_12
theorem u13_12r {d : Nat} {ls : Lo} {st : List Va} {σ : Sg} {Q : Rs → Sg → Prop} {g j : Nat} : Wx d 13 12 ls (vr g j :: st) σ Q ↔ Wx d 13 13 ls (vr g j :: vr g j :: st) σ Q := u_dupr d13_12
theorem d13_13 : decode (mB 13) 13 = .ok (.ldc 184, 2) := by decide +kernel
theorem d13_15 : decode (mB 13) 15 = .ok (.invokespecial 45, 3) := by decide +kernel
theorem d13_18 : decode (mB 13) 18 = .ok (.athrow, 1) := by decide +kernel
theorem d13_19 : decode (mB 13) 19 = .ok (.return_, 1) := by decide +kernel
theorem u13_19 {d : Nat} {ls : Lo} {σ : Sg} {Q : Rs → Sg → Prop} : Wx d 13 19 ls [] σ Q ↔ Q (.inl none) σ := u_vret d13_19 rfl
/-! 14: FiguredBass.checkVoice(II)V -/
theorem d14_0 : decode (mB 14) 0 = .ok (.iload_n 1, 1) := by decide +kernel
theorem u14_0 {d : Nat} {ls : Lo} {st : List Va} {σ : Sg} {Q : Rs → Sg → Prop} : Wx d 14 0 ls st σ Q ↔ Li (lget ls 1) (fun z => Wx d 14 1 ls (vi z :: st) σ Q) := u_iload_n d14_0
theorem d14_1 : decode (mB 14) 1 = .ok (.ifCond .lt 8, 3) := by decide +kernel
theorem u14_1 {d : Nat} {ls : Lo} {st : List Va} {σ : Sg} {Q : Rs → Sg → Prop} {a : Int} (h : -2147483648 ≤ a ∧ a ≤ 2147483647) : Wx d 14 1 ls (vi a :: st) σ Q ↔ if a < 0 then Wx d 14 9 ls st σ Q else Wx d 14 4 ls st σ Q := u_iflt d14_1 (by decide) h
theorem d14_4 : decode (mB 14) 4 = .ok (.iload_n 1, 1) := by decide +kernel
theorem u14_4 {d : Nat} {ls : Lo} {st : List Va} {σ : Sg} {Q : Rs → Sg → Prop} : Wx d 14 4 ls st σ Q ↔ Li (lget ls 1) (fun z => Wx d 14 5 ls (vi z :: st) σ Q) := u_iload_n d14_4
theorem d14_5 : decode (mB 14) 5 = .ok (.iload_n 2, 1) := by decide +kernel
theorem u14_5 {d : Nat} {ls : Lo} {st : List Va} {σ : Sg} {Q : Rs → Sg → Prop} : Wx d 14 5 ls st σ Q ↔ Li (lget ls 2) (fun z => Wx d 14 6 ls (vi z :: st) σ Q) := u_iload_n d14_5
theorem d14_6 : decode (mB 14) 6 = .ok (.if_icmp .lt 13, 3) := by decide +kernel
theorem u14_6 {d : Nat} {ls : Lo} {st : List Va} {σ : Sg} {Q : Rs → Sg → Prop} {a b : Int} (h : -2147483648 ≤ a ∧ a ≤ 2147483647) (h2 : -2147483648 ≤ b ∧ b ≤ 2147483647) : Wx d 14 6 ls (vi b :: vi a :: st) σ Q ↔ if a < b then Wx d 14 19 ls st σ Q else Wx d 14 9 ls st σ Q := u_iclt d14_6 (by decide) h h2
theorem d14_9 : decode (mB 14) 9 = .ok (.new 41, 3) := by decide +kernel
theorem u14_9 {d : Nat} {ls : Lo} {σ : Sg} {Q : Rs → Sg → Prop} : Wx d 14 9 ls [] σ Q ↔ Q (.inr 1) σ := u_throw d14_9 rfl
theorem d14_12 : decode (mB 14) 12 = .ok (.dup, 1) := by decide +kernel
theorem u14_12i {d : Nat} {ls : Lo} {st : List Va} {σ : Sg} {Q : Rs → Sg → Prop} {a : Int} : Wx d 14 12 ls (vi a :: st) σ Q ↔ Wx d 14 13 ls (vi a :: vi a :: st) σ Q := u_dupi d14_12
theorem u14_12r {d : Nat} {ls : Lo} {st : List Va} {σ : Sg} {Q : Rs → Sg → Prop} {g j : Nat} : Wx d 14 12 ls (vr g j :: st) σ Q ↔ Wx d 14 13 ls (vr g j :: vr g j :: st) σ Q := u_dupr d14_12
theorem d14_13 : decode (mB 14) 13 = .ok (.ldc 186, 2) := by decide +kernel
theorem d14_15 : decode (mB 14) 15 = .ok (.invokespecial 45, 3) := by decide +kernel
theorem d14_18 : decode (mB 14) 18 = .ok (.athrow, 1) := by decide +kernel
theorem d14_19 : decode (mB 14) 19 = .ok (.return_, 1) := by decide +kernel
theorem u14_19 {d : Nat} {ls : Lo} {σ : Sg} {Q : Rs → Sg → Prop} : Wx d 14 19 ls [] σ Q ↔ Q (.inl none) σ := u_vret d14_19 rfl
/-! 15: FiguredBass.checkWhole(I)V -/
theorem d15_0 : decode (mB 15) 0 = .ok (.aload_n 0, 1) := by decide +kernel
theorem u15_0 {d : Nat} {ls : Lo} {st : List Va} {σ : Sg} {Q : Rs → Sg → Prop} : Wx d 15 0 ls st σ Q ↔ Lr (lget ls 0) (fun z => Wx d 15 1 ls (.inr (.inl z) :: st) σ Q) := u_aload_n d15_0
theorem d15_1 : decode (mB 15) 1 = .ok (.getfield 18, 3) := by decide +kernel
theorem u15_1 {d : Nat} {ls : Lo} {st : List Va} {σ : Sg} {Q : Rs → Sg → Prop} {g j : Nat} : Wx d 15 1 ls (vr g j :: st) σ Q ↔ isO g j 0 ∧ Wx d 15 4 ls (fvv σ g j 1 :: st) σ Q := u_get (w := (0, 1)) d15_1 rfl
theorem d15_4 : decode (mB 15) 4 = .ok (.iload_n 1, 1) := by decide +kernel
theorem u15_4 {d : Nat} {ls : Lo} {st : List Va} {σ : Sg} {Q : Rs → Sg → Prop} : Wx d 15 4 ls st σ Q ↔ Li (lget ls 1) (fun z => Wx d 15 5 ls (vi z :: st) σ Q) := u_iload_n d15_4
theorem d15_5 : decode (mB 15) 5 = .ok (.aaload, 1) := by decide +kernel
theorem u15_5 {d : Nat} {ls : Lo} {st : List Va} {σ : Sg} {Q : Rs → Sg → Prop} {z : Int} {g j : Nat} : Wx d 15 5 ls (vi z :: vr g j :: st) σ Q ↔ (isA g j 2 z ∨ isA g j 3 z) ∧ On (rf g j z.toNat) (fun w => Wx d 15 6 ls (.inr (.inl w) :: st) σ Q) := u_aald d15_5
theorem d15_6 : decode (mB 15) 6 = .ok (.getfield 188, 3) := by decide +kernel
theorem u15_6 {d : Nat} {ls : Lo} {st : List Va} {σ : Sg} {Q : Rs → Sg → Prop} {g j : Nat} : Wx d 15 6 ls (vr g j :: st) σ Q ↔ isO g j 3 ∧ Wx d 15 9 ls (fvv σ g j 15 :: st) σ Q := u_get (w := (3, 15)) d15_6 rfl
theorem d15_9 : decode (mB 15) 9 = .ok (.ifCond .ne 13, 3) := by decide +kernel
theorem u15_9 {d : Nat} {ls : Lo} {st : List Va} {σ : Sg} {Q : Rs → Sg → Prop} {a : Int} (h : -2147483648 ≤ a ∧ a ≤ 2147483647) : Wx d 15 9 ls (vi a :: st) σ Q ↔ if ¬ a = 0 then Wx d 15 22 ls st σ Q else Wx d 15 12 ls st σ Q := u_ifne d15_9 (by decide) h
theorem d15_12 : decode (mB 15) 12 = .ok (.new 99, 3) := by decide +kernel
theorem u15_12 {d : Nat} {ls : Lo} {σ : Sg} {Q : Rs → Sg → Prop} : Wx d 15 12 ls [] σ Q ↔ Q (.inr 2) σ := u_throw d15_12 rfl
theorem d15_15 : decode (mB 15) 15 = .ok (.dup, 1) := by decide +kernel
theorem u15_15i {d : Nat} {ls : Lo} {st : List Va} {σ : Sg} {Q : Rs → Sg → Prop} {a : Int} : Wx d 15 15 ls (vi a :: st) σ Q ↔ Wx d 15 16 ls (vi a :: vi a :: st) σ Q := u_dupi d15_15
theorem u15_15r {d : Nat} {ls : Lo} {st : List Va} {σ : Sg} {Q : Rs → Sg → Prop} {g j : Nat} : Wx d 15 15 ls (vr g j :: st) σ Q ↔ Wx d 15 16 ls (vr g j :: vr g j :: st) σ Q := u_dupr d15_15
theorem d15_16 : decode (mB 15) 16 = .ok (.ldc 192, 2) := by decide +kernel
theorem d15_18 : decode (mB 15) 18 = .ok (.invokespecial 103, 3) := by decide +kernel
theorem d15_21 : decode (mB 15) 21 = .ok (.athrow, 1) := by decide +kernel
theorem d15_22 : decode (mB 15) 22 = .ok (.return_, 1) := by decide +kernel
theorem u15_22 {d : Nat} {ls : Lo} {σ : Sg} {Q : Rs → Sg → Prop} : Wx d 15 22 ls [] σ Q ↔ Q (.inl none) σ := u_vret d15_22 rfl
/-! 16: FiguredBass.checkAllWhole()V -/
theorem d16_0 : decode (mB 16) 0 = .ok (.iconst 0, 1) := by decide +kernel
theorem u16_0 {d : Nat} {ls : Lo} {st : List Va} {σ : Sg} {Q : Rs → Sg → Prop} : Wx d 16 0 ls st σ Q ↔ Wx d 16 1 ls (vi 0 :: st) σ Q := u_iconst d16_0
theorem d16_1 : decode (mB 16) 1 = .ok (.istore_n 1, 1) := by decide +kernel
theorem u16_1 {d : Nat} {ls : Lo} {st : List Va} {σ : Sg} {Q : Rs → Sg → Prop} {z : Int} : Wx d 16 1 ls (vi z :: st) σ Q ↔ Wx d 16 2 (lset ls 1 (vi z)) st σ Q := u_istore_n d16_1 (by decide)
theorem d16_2 : decode (mB 16) 2 = .ok (.iload_n 1, 1) := by decide +kernel
theorem u16_2 {d : Nat} {ls : Lo} {st : List Va} {σ : Sg} {Q : Rs → Sg → Prop} : Wx d 16 2 ls st σ Q ↔ Li (lget ls 1) (fun z => Wx d 16 3 ls (vi z :: st) σ Q) := u_iload_n d16_2
theorem d16_3 : decode (mB 16) 3 = .ok (.aload_n 0, 1) := by decide +kernel
theorem u16_3 {d : Nat} {ls : Lo} {st : List Va} {σ : Sg} {Q : Rs → Sg → Prop} : Wx d 16 3 ls st σ Q ↔ Lr (lget ls 0) (fun z => Wx d 16 4 ls (.inr (.inl z) :: st) σ Q) := u_aload_n d16_3
theorem d16_4 : decode (mB 16) 4 = .ok (.getfield 36, 3) := by decide +kernel
theorem u16_4 {d : Nat} {ls : Lo} {st : List Va} {σ : Sg} {Q : Rs → Sg → Prop} {g j : Nat} : Wx d 16 4 ls (vr g j :: st) σ Q ↔ isO g j 0 ∧ Wx d 16 7 ls (fvv σ g j 4 :: st) σ Q := u_get (w := (0, 4)) d16_4 rfl
theorem d16_7 : decode (mB 16) 7 = .ok (.if_icmp .ge 14, 3) := by decide +kernel
theorem u16_7 {d : Nat} {ls : Lo} {st : List Va} {σ : Sg} {Q : Rs → Sg → Prop} {a b : Int} (h : -2147483648 ≤ a ∧ a ≤ 2147483647) (h2 : -2147483648 ≤ b ∧ b ≤ 2147483647) : Wx d 16 7 ls (vi b :: vi a :: st) σ Q ↔ if b ≤ a then Wx d 16 21 ls st σ Q else Wx d 16 10 ls st σ Q := u_icge d16_7 (by decide) h h2
theorem d16_10 : decode (mB 16) 10 = .ok (.aload_n 0, 1) := by decide +kernel
theorem u16_10 {d : Nat} {ls : Lo} {st : List Va} {σ : Sg} {Q : Rs → Sg → Prop} : Wx d 16 10 ls st σ Q ↔ Lr (lget ls 0) (fun z => Wx d 16 11 ls (.inr (.inl z) :: st) σ Q) := u_aload_n d16_10
theorem d16_11 : decode (mB 16) 11 = .ok (.iload_n 1, 1) := by decide +kernel
theorem u16_11 {d : Nat} {ls : Lo} {st : List Va} {σ : Sg} {Q : Rs → Sg → Prop} : Wx d 16 11 ls st σ Q ↔ Li (lget ls 1) (fun z => Wx d 16 12 ls (vi z :: st) σ Q) := u_iload_n d16_11
theorem d16_12 : decode (mB 16) 12 = .ok (.invokevirtual 129, 3) := by decide +kernel
theorem u16_12 {d : Nat} {ls : Lo} {st : List Va} {σ : Sg} {Q : Rs → Sg → Prop} {g j : Nat} {a1 : Va} : Wx (d + 1) 16 12 ls (a1 :: vr g j :: st) σ Q ↔ (isO g j 0 ∧ st.length ≤ 4 ∧ nlg [a1] = true) ∧ Wm d 15 [vr g j, a1] σ (Kc (d + 1) 16 15 ls st Q) := u_inv1 d16_12 rfl rfl rfl
theorem d16_15 : decode (mB 16) 15 = .ok (.iinc 1 1, 3) := by decide +kernel
theorem u16_15 {d : Nat} {ls : Lo} {st : List Va} {σ : Sg} {Q : Rs → Sg → Prop} : Wx d 16 15 ls st σ Q ↔ Li (lget ls 1) (fun z => Wx d 16 18 (lset ls 1 (vi (z + 1))) st σ Q) := u_iinc d16_15 (by decide)
theorem d16_18 : decode (mB 16) 18 = .ok (.goto (-16), 3) := by decide +kernel
theorem u16_18 {d : Nat} {ls : Lo} {st : List Va} {σ : Sg} {Q : Rs → Sg → Prop} : Wx d 16 18 ls st σ Q ↔ Wx d 16 2 ls st σ Q := u_goto d16_18 (by decide)
theorem d16_21 : decode (mB 16) 21 = .ok (.return_, 1) := by decide +kernel
theorem u16_21 {d : Nat} {ls : Lo} {σ : Sg} {Q : Rs → Sg → Prop} : Wx d 16 21 ls [] σ Q ↔ Q (.inl none) σ := u_vret d16_21 rfl
/-! 17: FiguredBass.checkLaidOut()V -/
theorem d17_0 : decode (mB 17) 0 = .ok (.aload_n 0, 1) := by decide +kernel
theorem u17_0 {d : Nat} {ls : Lo} {st : List Va} {σ : Sg} {Q : Rs → Sg → Prop} : Wx d 17 0 ls st σ Q ↔ Lr (lget ls 0) (fun z => Wx d 17 1 ls (.inr (.inl z) :: st) σ Q) := u_aload_n d17_0
theorem d17_1 : decode (mB 17) 1 = .ok (.getfield 25, 3) := by decide +kernel
theorem u17_1 {d : Nat} {ls : Lo} {st : List Va} {σ : Sg} {Q : Rs → Sg → Prop} {g j : Nat} : Wx d 17 1 ls (vr g j :: st) σ Q ↔ isO g j 0 ∧ Wx d 17 4 ls (fvv σ g j 2 :: st) σ Q := u_get (w := (0, 2)) d17_1 rfl
theorem d17_4 : decode (mB 17) 4 = .ok (.getfield 194, 3) := by decide +kernel
theorem u17_4 {d : Nat} {ls : Lo} {st : List Va} {σ : Sg} {Q : Rs → Sg → Prop} {g j : Nat} : Wx d 17 4 ls (vr g j :: st) σ Q ↔ isO g j 5 ∧ Wx d 17 7 ls (fvv σ g j 6 :: st) σ Q := u_get (w := (5, 6)) d17_4 rfl
theorem d17_7 : decode (mB 17) 7 = .ok (.ifCond .ne 13, 3) := by decide +kernel
theorem u17_7 {d : Nat} {ls : Lo} {st : List Va} {σ : Sg} {Q : Rs → Sg → Prop} {a : Int} (h : -2147483648 ≤ a ∧ a ≤ 2147483647) : Wx d 17 7 ls (vi a :: st) σ Q ↔ if ¬ a = 0 then Wx d 17 20 ls st σ Q else Wx d 17 10 ls st σ Q := u_ifne d17_7 (by decide) h
theorem d17_10 : decode (mB 17) 10 = .ok (.new 99, 3) := by decide +kernel
theorem u17_10 {d : Nat} {ls : Lo} {σ : Sg} {Q : Rs → Sg → Prop} : Wx d 17 10 ls [] σ Q ↔ Q (.inr 2) σ := u_throw d17_10 rfl
theorem d17_13 : decode (mB 17) 13 = .ok (.dup, 1) := by decide +kernel
theorem u17_13i {d : Nat} {ls : Lo} {st : List Va} {σ : Sg} {Q : Rs → Sg → Prop} {a : Int} : Wx d 17 13 ls (vi a :: st) σ Q ↔ Wx d 17 14 ls (vi a :: vi a :: st) σ Q := u_dupi d17_13
theorem u17_13r {d : Nat} {ls : Lo} {st : List Va} {σ : Sg} {Q : Rs → Sg → Prop} {g j : Nat} : Wx d 17 13 ls (vr g j :: st) σ Q ↔ Wx d 17 14 ls (vr g j :: vr g j :: st) σ Q := u_dupr d17_13
theorem d17_14 : decode (mB 17) 14 = .ok (.ldc 197, 2) := by decide +kernel
theorem d17_16 : decode (mB 17) 16 = .ok (.invokespecial 103, 3) := by decide +kernel
theorem d17_19 : decode (mB 17) 19 = .ok (.athrow, 1) := by decide +kernel
theorem d17_20 : decode (mB 17) 20 = .ok (.return_, 1) := by decide +kernel
theorem u17_20 {d : Nat} {ls : Lo} {σ : Sg} {Q : Rs → Sg → Prop} : Wx d 17 20 ls [] σ Q ↔ Q (.inl none) σ := u_vret d17_20 rfl
