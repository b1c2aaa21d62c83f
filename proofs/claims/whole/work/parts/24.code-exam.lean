/-! 66: FiguredBass$Examination.look([LFiguredBass$Chord;I)I -/
theorem d66_0 : decode (mB 66) 0 = .ok (.aload_n 0, 1) := by decide +kernel
theorem u66_0 {d : Nat} {ls : Lo} {st : List Va} {σ : Sg} {Q : Rs → Sg → Prop} : Wx d 66 0 ls st σ Q ↔ Lr (lget ls 0) (fun z => Wx d 66 1 ls (.inr (.inl z) :: st) σ Q) := u_aload_n d66_0
theorem d66_1 : decode (mB 66) 1 = .ok (.iconst 0, 1) := by decide +kernel
theorem u66_1 {d : Nat} {ls : Lo} {st : List Va} {σ : Sg} {Q : Rs → Sg → Prop} : Wx d 66 1 ls st σ Q ↔ Wx d 66 2 ls (vi 0 :: st) σ Q := u_iconst d66_1
theorem d66_2 : decode (mB 66) 2 = .ok (.putfield 28, 3) := by decide +kernel
theorem u66_2 {d : Nat} {ls : Lo} {st : List Va} {σ : Sg} {Q : Rs → Sg → Prop} {z : Int} {g j : Nat} : Wx d 66 2 ls (vi z :: vr g j :: st) σ Q ↔ (isO g j 6 ∧ rf g j 4 = none) ∧ Wx d 66 5 ls st (up σ g j 4 z) Q := u_put (w := (6, 4)) d66_2 rfl rfl rfl
theorem d66_5 : decode (mB 66) 5 = .ok (.iconst 0, 1) := by decide +kernel
theorem u66_5 {d : Nat} {ls : Lo} {st : List Va} {σ : Sg} {Q : Rs → Sg → Prop} : Wx d 66 5 ls st σ Q ↔ Wx d 66 6 ls (vi 0 :: st) σ Q := u_iconst d66_5
theorem d66_6 : decode (mB 66) 6 = .ok (.istore_n 3, 1) := by decide +kernel
theorem u66_6 {d : Nat} {ls : Lo} {st : List Va} {σ : Sg} {Q : Rs → Sg → Prop} {z : Int} : Wx d 66 6 ls (vi z :: st) σ Q ↔ Wx d 66 7 (lset ls 3 (vi z)) st σ Q := u_istore_n d66_6 (by decide)
theorem d66_7 : decode (mB 66) 7 = .ok (.iload_n 3, 1) := by decide +kernel
theorem u66_7 {d : Nat} {ls : Lo} {st : List Va} {σ : Sg} {Q : Rs → Sg → Prop} : Wx d 66 7 ls st σ Q ↔ Li (lget ls 3) (fun z => Wx d 66 8 ls (vi z :: st) σ Q) := u_iload_n d66_7
theorem d66_8 : decode (mB 66) 8 = .ok (.iload_n 2, 1) := by decide +kernel
theorem u66_8 {d : Nat} {ls : Lo} {st : List Va} {σ : Sg} {Q : Rs → Sg → Prop} : Wx d 66 8 ls st σ Q ↔ Li (lget ls 2) (fun z => Wx d 66 9 ls (vi z :: st) σ Q) := u_iload_n d66_8
theorem d66_9 : decode (mB 66) 9 = .ok (.if_icmp .ge 61, 3) := by decide +kernel
theorem u66_9 {d : Nat} {ls : Lo} {st : List Va} {σ : Sg} {Q : Rs → Sg → Prop} {a b : Int} (h : -2147483648 ≤ a ∧ a ≤ 2147483647) (h2 : -2147483648 ≤ b ∧ b ≤ 2147483647) : Wx d 66 9 ls (vi b :: vi a :: st) σ Q ↔ if b ≤ a then Wx d 66 70 ls st σ Q else Wx d 66 12 ls st σ Q := u_icge d66_9 (by decide) h h2
theorem d66_12 : decode (mB 66) 12 = .ok (.aload_n 0, 1) := by decide +kernel
theorem u66_12 {d : Nat} {ls : Lo} {st : List Va} {σ : Sg} {Q : Rs → Sg → Prop} : Wx d 66 12 ls st σ Q ↔ Lr (lget ls 0) (fun z => Wx d 66 13 ls (.inr (.inl z) :: st) σ Q) := u_aload_n d66_12
theorem d66_13 : decode (mB 66) 13 = .ok (.aload_n 1, 1) := by decide +kernel
theorem u66_13 {d : Nat} {ls : Lo} {st : List Va} {σ : Sg} {Q : Rs → Sg → Prop} : Wx d 66 13 ls st σ Q ↔ Lr (lget ls 1) (fun z => Wx d 66 14 ls (.inr (.inl z) :: st) σ Q) := u_aload_n d66_13
theorem d66_14 : decode (mB 66) 14 = .ok (.iload_n 3, 1) := by decide +kernel
theorem u66_14 {d : Nat} {ls : Lo} {st : List Va} {σ : Sg} {Q : Rs → Sg → Prop} : Wx d 66 14 ls st σ Q ↔ Li (lget ls 3) (fun z => Wx d 66 15 ls (vi z :: st) σ Q) := u_iload_n d66_14
theorem d66_15 : decode (mB 66) 15 = .ok (.aaload, 1) := by decide +kernel
theorem u66_15 {d : Nat} {ls : Lo} {st : List Va} {σ : Sg} {Q : Rs → Sg → Prop} {z : Int} {g j : Nat} : Wx d 66 15 ls (vi z :: vr g j :: st) σ Q ↔ (isA g j 2 z ∨ isA g j 3 z) ∧ On (rf g j z.toNat) (fun w => Wx d 66 16 ls (.inr (.inl w) :: st) σ Q) := u_aald d66_15
theorem d66_16 : decode (mB 66) 16 = .ok (.iload_n 3, 1) := by decide +kernel
theorem u66_16 {d : Nat} {ls : Lo} {st : List Va} {σ : Sg} {Q : Rs → Sg → Prop} : Wx d 66 16 ls st σ Q ↔ Li (lget ls 3) (fun z => Wx d 66 17 ls (vi z :: st) σ Q) := u_iload_n d66_16
theorem d66_17 : decode (mB 66) 17 = .ok (.invokevirtual 32, 3) := by decide +kernel
theorem u66_17 {d : Nat} {ls : Lo} {st : List Va} {σ : Sg} {Q : Rs → Sg → Prop} {g j : Nat} {a1 a2 : Va} : Wx (d + 1) 66 17 ls (a2 :: a1 :: vr g j :: st) σ Q ↔ (isO g j 6 ∧ st.length ≤ 4 ∧ nlg [a2, a1] = true) ∧ Wm d 68 [vr g j, a1, a2] σ (Kc (d + 1) 66 20 ls st Q) := u_inv2 d66_17 rfl rfl rfl
theorem d66_20 : decode (mB 66) 20 = .ok (.iload_n 3, 1) := by decide +kernel
theorem u66_20 {d : Nat} {ls : Lo} {st : List Va} {σ : Sg} {Q : Rs → Sg → Prop} : Wx d 66 20 ls st σ Q ↔ Li (lget ls 3) (fun z => Wx d 66 21 ls (vi z :: st) σ Q) := u_iload_n d66_20
theorem d66_21 : decode (mB 66) 21 = .ok (.iconst 1, 1) := by decide +kernel
theorem u66_21 {d : Nat} {ls : Lo} {st : List Va} {σ : Sg} {Q : Rs → Sg → Prop} : Wx d 66 21 ls st σ Q ↔ Wx d 66 22 ls (vi 1 :: st) σ Q := u_iconst d66_21
theorem d66_22 : decode (mB 66) 22 = .ok (.iadd, 1) := by decide +kernel
theorem u66_22 {d : Nat} {ls : Lo} {st : List Va} {σ : Sg} {Q : Rs → Sg → Prop} {a b : Int} : Wx d 66 22 ls (vi b :: vi a :: st) σ Q ↔ Wx d 66 23 ls (vi (a + b) :: st) σ Q := u_iadd d66_22
theorem d66_23 : decode (mB 66) 23 = .ok (.iload_n 2, 1) := by decide +kernel
theorem u66_23 {d : Nat} {ls : Lo} {st : List Va} {σ : Sg} {Q : Rs → Sg → Prop} : Wx d 66 23 ls st σ Q ↔ Li (lget ls 2) (fun z => Wx d 66 24 ls (vi z :: st) σ Q) := u_iload_n d66_23
theorem d66_24 : decode (mB 66) 24 = .ok (.if_icmp .ge 32, 3) := by decide +kernel
theorem u66_24 {d : Nat} {ls : Lo} {st : List Va} {σ : Sg} {Q : Rs → Sg → Prop} {a b : Int} (h : -2147483648 ≤ a ∧ a ≤ 2147483647) (h2 : -2147483648 ≤ b ∧ b ≤ 2147483647) : Wx d 66 24 ls (vi b :: vi a :: st) σ Q ↔ if b ≤ a then Wx d 66 56 ls st σ Q else Wx d 66 27 ls st σ Q := u_icge d66_24 (by decide) h h2
theorem d66_27 : decode (mB 66) 27 = .ok (.aload_n 0, 1) := by decide +kernel
theorem u66_27 {d : Nat} {ls : Lo} {st : List Va} {σ : Sg} {Q : Rs → Sg → Prop} : Wx d 66 27 ls st σ Q ↔ Lr (lget ls 0) (fun z => Wx d 66 28 ls (.inr (.inl z) :: st) σ Q) := u_aload_n d66_27
theorem d66_28 : decode (mB 66) 28 = .ok (.getfield 12, 3) := by decide +kernel
theorem u66_28 {d : Nat} {ls : Lo} {st : List Va} {σ : Sg} {Q : Rs → Sg → Prop} {g j : Nat} : Wx d 66 28 ls (vr g j :: st) σ Q ↔ isO g j 6 ∧ Wx d 66 31 ls (fvv σ g j 0 :: st) σ Q := u_get (w := (6, 0)) d66_28 rfl
theorem d66_31 : decode (mB 66) 31 = .ok (.aload_n 1, 1) := by decide +kernel
theorem u66_31 {d : Nat} {ls : Lo} {st : List Va} {σ : Sg} {Q : Rs → Sg → Prop} : Wx d 66 31 ls st σ Q ↔ Lr (lget ls 1) (fun z => Wx d 66 32 ls (.inr (.inl z) :: st) σ Q) := u_aload_n d66_31
theorem d66_32 : decode (mB 66) 32 = .ok (.iload_n 3, 1) := by decide +kernel
theorem u66_32 {d : Nat} {ls : Lo} {st : List Va} {σ : Sg} {Q : Rs → Sg → Prop} : Wx d 66 32 ls st σ Q ↔ Li (lget ls 3) (fun z => Wx d 66 33 ls (vi z :: st) σ Q) := u_iload_n d66_32
theorem d66_33 : decode (mB 66) 33 = .ok (.aaload, 1) := by decide +kernel
theorem u66_33 {d : Nat} {ls : Lo} {st : List Va} {σ : Sg} {Q : Rs → Sg → Prop} {z : Int} {g j : Nat} : Wx d 66 33 ls (vi z :: vr g j :: st) σ Q ↔ (isA g j 2 z ∨ isA g j 3 z) ∧ On (rf g j z.toNat) (fun w => Wx d 66 34 ls (.inr (.inl w) :: st) σ Q) := u_aald d66_33
theorem d66_34 : decode (mB 66) 34 = .ok (.iconst (-1), 1) := by decide +kernel
theorem u66_34 {d : Nat} {ls : Lo} {st : List Va} {σ : Sg} {Q : Rs → Sg → Prop} : Wx d 66 34 ls st σ Q ↔ Wx d 66 35 ls (vi (-1) :: st) σ Q := u_iconst d66_34
theorem d66_35 : decode (mB 66) 35 = .ok (.invokevirtual 38, 3) := by decide +kernel
theorem u66_35 {d : Nat} {ls : Lo} {st : List Va} {σ : Sg} {Q : Rs → Sg → Prop} {g j : Nat} {a1 a2 : Va} : Wx (d + 1) 66 35 ls (a2 :: a1 :: vr g j :: st) σ Q ↔ (isO g j 4 ∧ st.length ≤ 4 ∧ nlg [a2, a1] = true) ∧ Wm d 47 [vr g j, a1, a2] σ (Kc (d + 1) 66 38 ls st Q) := u_inv2 d66_35 rfl rfl rfl
theorem d66_38 : decode (mB 66) 38 = .ok (.aload_n 0, 1) := by decide +kernel
theorem u66_38 {d : Nat} {ls : Lo} {st : List Va} {σ : Sg} {Q : Rs → Sg → Prop} : Wx d 66 38 ls st σ Q ↔ Lr (lget ls 0) (fun z => Wx d 66 39 ls (.inr (.inl z) :: st) σ Q) := u_aload_n d66_38
theorem d66_39 : decode (mB 66) 39 = .ok (.getfield 12, 3) := by decide +kernel
theorem u66_39 {d : Nat} {ls : Lo} {st : List Va} {σ : Sg} {Q : Rs → Sg → Prop} {g j : Nat} : Wx d 66 39 ls (vr g j :: st) σ Q ↔ isO g j 6 ∧ Wx d 66 42 ls (fvv σ g j 0 :: st) σ Q := u_get (w := (6, 0)) d66_39 rfl
theorem d66_42 : decode (mB 66) 42 = .ok (.aload_n 1, 1) := by decide +kernel
theorem u66_42 {d : Nat} {ls : Lo} {st : List Va} {σ : Sg} {Q : Rs → Sg → Prop} : Wx d 66 42 ls st σ Q ↔ Lr (lget ls 1) (fun z => Wx d 66 43 ls (.inr (.inl z) :: st) σ Q) := u_aload_n d66_42
theorem d66_43 : decode (mB 66) 43 = .ok (.iload_n 3, 1) := by decide +kernel
theorem u66_43 {d : Nat} {ls : Lo} {st : List Va} {σ : Sg} {Q : Rs → Sg → Prop} : Wx d 66 43 ls st σ Q ↔ Li (lget ls 3) (fun z => Wx d 66 44 ls (vi z :: st) σ Q) := u_iload_n d66_43
theorem d66_44 : decode (mB 66) 44 = .ok (.iconst 1, 1) := by decide +kernel
theorem u66_44 {d : Nat} {ls : Lo} {st : List Va} {σ : Sg} {Q : Rs → Sg → Prop} : Wx d 66 44 ls st σ Q ↔ Wx d 66 45 ls (vi 1 :: st) σ Q := u_iconst d66_44
theorem d66_45 : decode (mB 66) 45 = .ok (.iadd, 1) := by decide +kernel
theorem u66_45 {d : Nat} {ls : Lo} {st : List Va} {σ : Sg} {Q : Rs → Sg → Prop} {a b : Int} : Wx d 66 45 ls (vi b :: vi a :: st) σ Q ↔ Wx d 66 46 ls (vi (a + b) :: st) σ Q := u_iadd d66_45
theorem d66_46 : decode (mB 66) 46 = .ok (.aaload, 1) := by decide +kernel
theorem u66_46 {d : Nat} {ls : Lo} {st : List Va} {σ : Sg} {Q : Rs → Sg → Prop} {z : Int} {g j : Nat} : Wx d 66 46 ls (vi z :: vr g j :: st) σ Q ↔ (isA g j 2 z ∨ isA g j 3 z) ∧ On (rf g j z.toNat) (fun w => Wx d 66 47 ls (.inr (.inl w) :: st) σ Q) := u_aald d66_46
theorem d66_47 : decode (mB 66) 47 = .ok (.iconst (-1), 1) := by decide +kernel
theorem u66_47 {d : Nat} {ls : Lo} {st : List Va} {σ : Sg} {Q : Rs → Sg → Prop} : Wx d 66 47 ls st σ Q ↔ Wx d 66 48 ls (vi (-1) :: st) σ Q := u_iconst d66_47
theorem d66_48 : decode (mB 66) 48 = .ok (.invokevirtual 41, 3) := by decide +kernel
theorem u66_48 {d : Nat} {ls : Lo} {st : List Va} {σ : Sg} {Q : Rs → Sg → Prop} {g j : Nat} {a1 a2 : Va} : Wx (d + 1) 66 48 ls (a2 :: a1 :: vr g j :: st) σ Q ↔ (isO g j 4 ∧ st.length ≤ 4 ∧ nlg [a2, a1] = true) ∧ Wm d 48 [vr g j, a1, a2] σ (Kc (d + 1) 66 51 ls st Q) := u_inv2 d66_48 rfl rfl rfl
theorem d66_51 : decode (mB 66) 51 = .ok (.aload_n 0, 1) := by decide +kernel
theorem u66_51 {d : Nat} {ls : Lo} {st : List Va} {σ : Sg} {Q : Rs → Sg → Prop} : Wx d 66 51 ls st σ Q ↔ Lr (lget ls 0) (fun z => Wx d 66 52 ls (.inr (.inl z) :: st) σ Q) := u_aload_n d66_51
theorem d66_52 : decode (mB 66) 52 = .ok (.iload_n 3, 1) := by decide +kernel
theorem u66_52 {d : Nat} {ls : Lo} {st : List Va} {σ : Sg} {Q : Rs → Sg → Prop} : Wx d 66 52 ls st σ Q ↔ Li (lget ls 3) (fun z => Wx d 66 53 ls (vi z :: st) σ Q) := u_iload_n d66_52
theorem d66_53 : decode (mB 66) 53 = .ok (.invokevirtual 44, 3) := by decide +kernel
theorem u66_53 {d : Nat} {ls : Lo} {st : List Va} {σ : Sg} {Q : Rs → Sg → Prop} {g j : Nat} {a1 : Va} : Wx (d + 1) 66 53 ls (a1 :: vr g j :: st) σ Q ↔ (isO g j 6 ∧ st.length ≤ 4 ∧ nlg [a1] = true) ∧ Wm d 69 [vr g j, a1] σ (Kc (d + 1) 66 56 ls st Q) := u_inv1 d66_53 rfl rfl rfl
theorem d66_56 : decode (mB 66) 56 = .ok (.aload_n 0, 1) := by decide +kernel
theorem u66_56 {d : Nat} {ls : Lo} {st : List Va} {σ : Sg} {Q : Rs → Sg → Prop} : Wx d 66 56 ls st σ Q ↔ Lr (lget ls 0) (fun z => Wx d 66 57 ls (.inr (.inl z) :: st) σ Q) := u_aload_n d66_56
theorem d66_57 : decode (mB 66) 57 = .ok (.aload_n 1, 1) := by decide +kernel
theorem u66_57 {d : Nat} {ls : Lo} {st : List Va} {σ : Sg} {Q : Rs → Sg → Prop} : Wx d 66 57 ls st σ Q ↔ Lr (lget ls 1) (fun z => Wx d 66 58 ls (.inr (.inl z) :: st) σ Q) := u_aload_n d66_57
theorem d66_58 : decode (mB 66) 58 = .ok (.iload_n 3, 1) := by decide +kernel
theorem u66_58 {d : Nat} {ls : Lo} {st : List Va} {σ : Sg} {Q : Rs → Sg → Prop} : Wx d 66 58 ls st σ Q ↔ Li (lget ls 3) (fun z => Wx d 66 59 ls (vi z :: st) σ Q) := u_iload_n d66_58
theorem d66_59 : decode (mB 66) 59 = .ok (.aaload, 1) := by decide +kernel
theorem u66_59 {d : Nat} {ls : Lo} {st : List Va} {σ : Sg} {Q : Rs → Sg → Prop} {z : Int} {g j : Nat} : Wx d 66 59 ls (vi z :: vr g j :: st) σ Q ↔ (isA g j 2 z ∨ isA g j 3 z) ∧ On (rf g j z.toNat) (fun w => Wx d 66 60 ls (.inr (.inl w) :: st) σ Q) := u_aald d66_59
theorem d66_60 : decode (mB 66) 60 = .ok (.iload_n 3, 1) := by decide +kernel
theorem u66_60 {d : Nat} {ls : Lo} {st : List Va} {σ : Sg} {Q : Rs → Sg → Prop} : Wx d 66 60 ls st σ Q ↔ Li (lget ls 3) (fun z => Wx d 66 61 ls (vi z :: st) σ Q) := u_iload_n d66_60
theorem d66_61 : decode (mB 66) 61 = .ok (.invokevirtual 48, 3) := by decide +kernel
theorem u66_61 {d : Nat} {ls : Lo} {st : List Va} {σ : Sg} {Q : Rs → Sg → Prop} {g j : Nat} {a1 a2 : Va} : Wx (d + 1) 66 61 ls (a2 :: a1 :: vr g j :: st) σ Q ↔ (isO g j 6 ∧ st.length ≤ 4 ∧ nlg [a2, a1] = true) ∧ Wm d 70 [vr g j, a1, a2] σ (Kc (d + 1) 66 64 ls st Q) := u_inv2 d66_61 rfl rfl rfl
theorem d66_64 : decode (mB 66) 64 = .ok (.iinc 3 1, 3) := by decide +kernel
theorem u66_64 {d : Nat} {ls : Lo} {st : List Va} {σ : Sg} {Q : Rs → Sg → Prop} : Wx d 66 64 ls st σ Q ↔ Li (lget ls 3) (fun z => Wx d 66 67 (lset ls 3 (vi (z + 1))) st σ Q) := u_iinc d66_64 (by decide)
theorem d66_67 : decode (mB 66) 67 = .ok (.goto (-60), 3) := by decide +kernel
theorem u66_67 {d : Nat} {ls : Lo} {st : List Va} {σ : Sg} {Q : Rs → Sg → Prop} : Wx d 66 67 ls st σ Q ↔ Wx d 66 7 ls st σ Q := u_goto d66_67 (by decide)
theorem d66_70 : decode (mB 66) 70 = .ok (.aload_n 0, 1) := by decide +kernel
theorem u66_70 {d : Nat} {ls : Lo} {st : List Va} {σ : Sg} {Q : Rs → Sg → Prop} : Wx d 66 70 ls st σ Q ↔ Lr (lget ls 0) (fun z => Wx d 66 71 ls (.inr (.inl z) :: st) σ Q) := u_aload_n d66_70
theorem d66_71 : decode (mB 66) 71 = .ok (.getfield 28, 3) := by decide +kernel
theorem u66_71 {d : Nat} {ls : Lo} {st : List Va} {σ : Sg} {Q : Rs → Sg → Prop} {g j : Nat} : Wx d 66 71 ls (vr g j :: st) σ Q ↔ isO g j 6 ∧ Wx d 66 74 ls (fvv σ g j 4 :: st) σ Q := u_get (w := (6, 4)) d66_71 rfl
theorem d66_74 : decode (mB 66) 74 = .ok (.ireturn, 1) := by decide +kernel
theorem u66_74 {d : Nat} {ls : Lo} {σ : Sg} {Q : Rs → Sg → Prop} {z : Int} : Wx d 66 74 ls [vi z] σ Q ↔ Q (.inl (some (vi z))) σ := u_iret d66_74 rfl
/-! 67: FiguredBass$Examination.answer(II)I -/
theorem d67_0 : decode (mB 67) 0 = .ok (.iload_n 2, 1) := by decide +kernel
theorem u67_0 {d : Nat} {ls : Lo} {st : List Va} {σ : Sg} {Q : Rs → Sg → Prop} : Wx d 67 0 ls st σ Q ↔ Li (lget ls 2) (fun z => Wx d 67 1 ls (vi z :: st) σ Q) := u_iload_n d67_0
theorem d67_1 : decode (mB 67) 1 = .ok (.lookupswitch 41 #[(0, 27), (1, 34)], 27) := by decide +kernel
theorem u67_1 {d : Nat} {ls : Lo} {st : List Va} {σ : Sg} {Q : Rs → Sg → Prop} {a : Int} {t : Nat} (h : -2147483648 ≤ a ∧ a ≤ 2147483647) (ht : (1 : Int) + Op.lookupswitch.offset [(0, 27), (1, 34)] 41 a = (t : Int)) : Wx d 67 1 ls (vi a :: st) σ Q ↔ Wx d 67 t ls st σ Q := u_lookup d67_1 (by decide) h ht
theorem d67_28 : decode (mB 67) 28 = .ok (.aload_n 0, 1) := by decide +kernel
theorem u67_28 {d : Nat} {ls : Lo} {st : List Va} {σ : Sg} {Q : Rs → Sg → Prop} : Wx d 67 28 ls st σ Q ↔ Lr (lget ls 0) (fun z => Wx d 67 29 ls (.inr (.inl z) :: st) σ Q) := u_aload_n d67_28
theorem d67_29 : decode (mB 67) 29 = .ok (.getfield 18, 3) := by decide +kernel
theorem u67_29 {d : Nat} {ls : Lo} {st : List Va} {σ : Sg} {Q : Rs → Sg → Prop} {g j : Nat} : Wx d 67 29 ls (vr g j :: st) σ Q ↔ isO g j 6 ∧ Wx d 67 32 ls (fvv σ g j 1 :: st) σ Q := u_get (w := (6, 1)) d67_29 rfl
theorem d67_32 : decode (mB 67) 32 = .ok (.iload_n 1, 1) := by decide +kernel
theorem u67_32 {d : Nat} {ls : Lo} {st : List Va} {σ : Sg} {Q : Rs → Sg → Prop} : Wx d 67 32 ls st σ Q ↔ Li (lget ls 1) (fun z => Wx d 67 33 ls (vi z :: st) σ Q) := u_iload_n d67_32
theorem d67_33 : decode (mB 67) 33 = .ok (.iaload, 1) := by decide +kernel
theorem u67_33 {d : Nat} {ls : Lo} {st : List Va} {σ : Sg} {Q : Rs → Sg → Prop} {z : Int} {g j : Nat} : Wx d 67 33 ls (vi z :: vr g j :: st) σ Q ↔ On (ial σ g j z) (fun x => Wx d 67 34 ls (vi x :: st) σ Q) := u_iald d67_33
theorem d67_34 : decode (mB 67) 34 = .ok (.ireturn, 1) := by decide +kernel
theorem u67_34 {d : Nat} {ls : Lo} {σ : Sg} {Q : Rs → Sg → Prop} {z : Int} : Wx d 67 34 ls [vi z] σ Q ↔ Q (.inl (some (vi z))) σ := u_iret d67_34 rfl
theorem d67_35 : decode (mB 67) 35 = .ok (.aload_n 0, 1) := by decide +kernel
theorem u67_35 {d : Nat} {ls : Lo} {st : List Va} {σ : Sg} {Q : Rs → Sg → Prop} : Wx d 67 35 ls st σ Q ↔ Lr (lget ls 0) (fun z => Wx d 67 36 ls (.inr (.inl z) :: st) σ Q) := u_aload_n d67_35
theorem d67_36 : decode (mB 67) 36 = .ok (.getfield 22, 3) := by decide +kernel
theorem u67_36 {d : Nat} {ls : Lo} {st : List Va} {σ : Sg} {Q : Rs → Sg → Prop} {g j : Nat} : Wx d 67 36 ls (vr g j :: st) σ Q ↔ isO g j 6 ∧ Wx d 67 39 ls (fvv σ g j 2 :: st) σ Q := u_get (w := (6, 2)) d67_36 rfl
theorem d67_39 : decode (mB 67) 39 = .ok (.iload_n 1, 1) := by decide +kernel
theorem u67_39 {d : Nat} {ls : Lo} {st : List Va} {σ : Sg} {Q : Rs → Sg → Prop} : Wx d 67 39 ls st σ Q ↔ Li (lget ls 1) (fun z => Wx d 67 40 ls (vi z :: st) σ Q) := u_iload_n d67_39
theorem d67_40 : decode (mB 67) 40 = .ok (.iaload, 1) := by decide +kernel
theorem u67_40 {d : Nat} {ls : Lo} {st : List Va} {σ : Sg} {Q : Rs → Sg → Prop} {z : Int} {g j : Nat} : Wx d 67 40 ls (vi z :: vr g j :: st) σ Q ↔ On (ial σ g j z) (fun x => Wx d 67 41 ls (vi x :: st) σ Q) := u_iald d67_40
theorem d67_41 : decode (mB 67) 41 = .ok (.ireturn, 1) := by decide +kernel
theorem u67_41 {d : Nat} {ls : Lo} {σ : Sg} {Q : Rs → Sg → Prop} {z : Int} : Wx d 67 41 ls [vi z] σ Q ↔ Q (.inl (some (vi z))) σ := u_iret d67_41 rfl
theorem d67_42 : decode (mB 67) 42 = .ok (.aload_n 0, 1) := by decide +kernel
theorem u67_42 {d : Nat} {ls : Lo} {st : List Va} {σ : Sg} {Q : Rs → Sg → Prop} : Wx d 67 42 ls st σ Q ↔ Lr (lget ls 0) (fun z => Wx d 67 43 ls (.inr (.inl z) :: st) σ Q) := u_aload_n d67_42
theorem d67_43 : decode (mB 67) 43 = .ok (.getfield 25, 3) := by decide +kernel
theorem u67_43 {d : Nat} {ls : Lo} {st : List Va} {σ : Sg} {Q : Rs → Sg → Prop} {g j : Nat} : Wx d 67 43 ls (vr g j :: st) σ Q ↔ isO g j 6 ∧ Wx d 67 46 ls (fvv σ g j 3 :: st) σ Q := u_get (w := (6, 3)) d67_43 rfl
theorem d67_46 : decode (mB 67) 46 = .ok (.iload_n 1, 1) := by decide +kernel
theorem u67_46 {d : Nat} {ls : Lo} {st : List Va} {σ : Sg} {Q : Rs → Sg → Prop} : Wx d 67 46 ls st σ Q ↔ Li (lget ls 1) (fun z => Wx d 67 47 ls (vi z :: st) σ Q) := u_iload_n d67_46
theorem d67_47 : decode (mB 67) 47 = .ok (.iaload, 1) := by decide +kernel
theorem u67_47 {d : Nat} {ls : Lo} {st : List Va} {σ : Sg} {Q : Rs → Sg → Prop} {z : Int} {g j : Nat} : Wx d 67 47 ls (vi z :: vr g j :: st) σ Q ↔ On (ial σ g j z) (fun x => Wx d 67 48 ls (vi x :: st) σ Q) := u_iald d67_47
theorem d67_48 : decode (mB 67) 48 = .ok (.ireturn, 1) := by decide +kernel
theorem u67_48 {d : Nat} {ls : Lo} {σ : Sg} {Q : Rs → Sg → Prop} {z : Int} : Wx d 67 48 ls [vi z] σ Q ↔ Q (.inl (some (vi z))) σ := u_iret d67_48 rfl
/-! 68: FiguredBass$Examination.lookAtVoices(LFiguredBass$Chord;I)V -/
theorem d68_0 : decode (mB 68) 0 = .ok (.iconst 0, 1) := by decide +kernel
theorem u68_0 {d : Nat} {ls : Lo} {st : List Va} {σ : Sg} {Q : Rs → Sg → Prop} : Wx d 68 0 ls st σ Q ↔ Wx d 68 1 ls (vi 0 :: st) σ Q := u_iconst d68_0
theorem d68_1 : decode (mB 68) 1 = .ok (.istore_n 3, 1) := by decide +kernel
theorem u68_1 {d : Nat} {ls : Lo} {st : List Va} {σ : Sg} {Q : Rs → Sg → Prop} {z : Int} : Wx d 68 1 ls (vi z :: st) σ Q ↔ Wx d 68 2 (lset ls 3 (vi z)) st σ Q := u_istore_n d68_1 (by decide)
theorem d68_2 : decode (mB 68) 2 = .ok (.iload_n 3, 1) := by decide +kernel
theorem u68_2 {d : Nat} {ls : Lo} {st : List Va} {σ : Sg} {Q : Rs → Sg → Prop} : Wx d 68 2 ls st σ Q ↔ Li (lget ls 3) (fun z => Wx d 68 3 ls (vi z :: st) σ Q) := u_iload_n d68_2
theorem d68_3 : decode (mB 68) 3 = .ok (.iconst 3, 1) := by decide +kernel
theorem u68_3 {d : Nat} {ls : Lo} {st : List Va} {σ : Sg} {Q : Rs → Sg → Prop} : Wx d 68 3 ls st σ Q ↔ Wx d 68 4 ls (vi 3 :: st) σ Q := u_iconst d68_3
theorem d68_4 : decode (mB 68) 4 = .ok (.if_icmp .ge 49, 3) := by decide +kernel
theorem u68_4 {d : Nat} {ls : Lo} {st : List Va} {σ : Sg} {Q : Rs → Sg → Prop} {a b : Int} (h : -2147483648 ≤ a ∧ a ≤ 2147483647) (h2 : -2147483648 ≤ b ∧ b ≤ 2147483647) : Wx d 68 4 ls (vi b :: vi a :: st) σ Q ↔ if b ≤ a then Wx d 68 53 ls st σ Q else Wx d 68 7 ls st σ Q := u_icge d68_4 (by decide) h h2
theorem d68_7 : decode (mB 68) 7 = .ok (.aload_n 1, 1) := by decide +kernel
theorem u68_7 {d : Nat} {ls : Lo} {st : List Va} {σ : Sg} {Q : Rs → Sg → Prop} : Wx d 68 7 ls st σ Q ↔ Lr (lget ls 1) (fun z => Wx d 68 8 ls (.inr (.inl z) :: st) σ Q) := u_aload_n d68_7
theorem d68_8 : decode (mB 68) 8 = .ok (.iconst (-1), 1) := by decide +kernel
theorem u68_8 {d : Nat} {ls : Lo} {st : List Va} {σ : Sg} {Q : Rs → Sg → Prop} : Wx d 68 8 ls st σ Q ↔ Wx d 68 9 ls (vi (-1) :: st) σ Q := u_iconst d68_8
theorem d68_9 : decode (mB 68) 9 = .ok (.iload_n 3, 1) := by decide +kernel
theorem u68_9 {d : Nat} {ls : Lo} {st : List Va} {σ : Sg} {Q : Rs → Sg → Prop} : Wx d 68 9 ls st σ Q ↔ Li (lget ls 3) (fun z => Wx d 68 10 ls (vi z :: st) σ Q) := u_iload_n d68_9
theorem d68_10 : decode (mB 68) 10 = .ok (.invokevirtual 51, 3) := by decide +kernel
theorem u68_10 {d : Nat} {ls : Lo} {st : List Va} {σ : Sg} {Q : Rs → Sg → Prop} {g j : Nat} {a1 a2 : Va} : Wx (d + 1) 68 10 ls (a2 :: a1 :: vr g j :: st) σ Q ↔ (isO g j 3 ∧ st.length ≤ 4 ∧ nlg [a2, a1] = true) ∧ Wm d 43 [vr g j, a1, a2] σ (Kc (d + 1) 68 13 ls st Q) := u_inv2 d68_10 rfl rfl rfl
theorem d68_13 : decode (mB 68) 13 = .ok (.istore 4, 2) := by decide +kernel
theorem u68_13 {d : Nat} {ls : Lo} {st : List Va} {σ : Sg} {Q : Rs → Sg → Prop} {z : Int} : Wx d 68 13 ls (vi z :: st) σ Q ↔ Wx d 68 15 (lset ls 4 (vi z)) st σ Q := u_istore d68_13 (by decide)
theorem d68_15 : decode (mB 68) 15 = .ok (.aload_n 0, 1) := by decide +kernel
theorem u68_15 {d : Nat} {ls : Lo} {st : List Va} {σ : Sg} {Q : Rs → Sg → Prop} : Wx d 68 15 ls st σ Q ↔ Lr (lget ls 0) (fun z => Wx d 68 16 ls (.inr (.inl z) :: st) σ Q) := u_aload_n d68_15
theorem d68_16 : decode (mB 68) 16 = .ok (.iload 4, 2) := by decide +kernel
theorem u68_16 {d : Nat} {ls : Lo} {st : List Va} {σ : Sg} {Q : Rs → Sg → Prop} : Wx d 68 16 ls st σ Q ↔ Li (lget ls 4) (fun z => Wx d 68 18 ls (vi z :: st) σ Q) := u_iload d68_16
theorem d68_18 : decode (mB 68) 18 = .ok (.getstatic 55, 3) := by decide +kernel
theorem u68_18 {d : Nat} {ls : Lo} {st : List Va} {σ : Sg} {Q : Rs → Sg → Prop} : Wx d 68 18 ls st σ Q ↔ Wx d 68 21 ls (vr 13 1 :: st) σ Q := u_gets d68_18 rfl
theorem d68_21 : decode (mB 68) 21 = .ok (.iload_n 3, 1) := by decide +kernel
theorem u68_21 {d : Nat} {ls : Lo} {st : List Va} {σ : Sg} {Q : Rs → Sg → Prop} : Wx d 68 21 ls st σ Q ↔ Li (lget ls 3) (fun z => Wx d 68 22 ls (vi z :: st) σ Q) := u_iload_n d68_21
theorem d68_22 : decode (mB 68) 22 = .ok (.iaload, 1) := by decide +kernel
theorem u68_22 {d : Nat} {ls : Lo} {st : List Va} {σ : Sg} {Q : Rs → Sg → Prop} {z : Int} {g j : Nat} : Wx d 68 22 ls (vi z :: vr g j :: st) σ Q ↔ On (ial σ g j z) (fun x => Wx d 68 23 ls (vi x :: st) σ Q) := u_iald d68_22
theorem d68_23 : decode (mB 68) 23 = .ok (.if_icmp .lt 13, 3) := by decide +kernel
theorem u68_23 {d : Nat} {ls : Lo} {st : List Va} {σ : Sg} {Q : Rs → Sg → Prop} {a b : Int} (h : -2147483648 ≤ a ∧ a ≤ 2147483647) (h2 : -2147483648 ≤ b ∧ b ≤ 2147483647) : Wx d 68 23 ls (vi b :: vi a :: st) σ Q ↔ if a < b then Wx d 68 36 ls st σ Q else Wx d 68 26 ls st σ Q := u_iclt d68_23 (by decide) h h2
theorem d68_26 : decode (mB 68) 26 = .ok (.iload 4, 2) := by decide +kernel
theorem u68_26 {d : Nat} {ls : Lo} {st : List Va} {σ : Sg} {Q : Rs → Sg → Prop} : Wx d 68 26 ls st σ Q ↔ Li (lget ls 4) (fun z => Wx d 68 28 ls (vi z :: st) σ Q) := u_iload d68_26
theorem d68_28 : decode (mB 68) 28 = .ok (.getstatic 58, 3) := by decide +kernel
theorem u68_28 {d : Nat} {ls : Lo} {st : List Va} {σ : Sg} {Q : Rs → Sg → Prop} : Wx d 68 28 ls st σ Q ↔ Wx d 68 31 ls (vr 13 2 :: st) σ Q := u_gets d68_28 rfl
theorem d68_31 : decode (mB 68) 31 = .ok (.iload_n 3, 1) := by decide +kernel
theorem u68_31 {d : Nat} {ls : Lo} {st : List Va} {σ : Sg} {Q : Rs → Sg → Prop} : Wx d 68 31 ls st σ Q ↔ Li (lget ls 3) (fun z => Wx d 68 32 ls (vi z :: st) σ Q) := u_iload_n d68_31
theorem d68_32 : decode (mB 68) 32 = .ok (.iaload, 1) := by decide +kernel
theorem u68_32 {d : Nat} {ls : Lo} {st : List Va} {σ : Sg} {Q : Rs → Sg → Prop} {z : Int} {g j : Nat} : Wx d 68 32 ls (vi z :: vr g j :: st) σ Q ↔ On (ial σ g j z) (fun x => Wx d 68 33 ls (vi x :: st) σ Q) := u_iald d68_32
theorem d68_33 : decode (mB 68) 33 = .ok (.if_icmp .le 7, 3) := by decide +kernel
theorem u68_33 {d : Nat} {ls : Lo} {st : List Va} {σ : Sg} {Q : Rs → Sg → Prop} {a b : Int} (h : -2147483648 ≤ a ∧ a ≤ 2147483647) (h2 : -2147483648 ≤ b ∧ b ≤ 2147483647) : Wx d 68 33 ls (vi b :: vi a :: st) σ Q ↔ if a ≤ b then Wx d 68 40 ls st σ Q else Wx d 68 36 ls st σ Q := u_icle d68_33 (by decide) h h2
theorem d68_36 : decode (mB 68) 36 = .ok (.iconst 1, 1) := by decide +kernel
theorem u68_36 {d : Nat} {ls : Lo} {st : List Va} {σ : Sg} {Q : Rs → Sg → Prop} : Wx d 68 36 ls st σ Q ↔ Wx d 68 37 ls (vi 1 :: st) σ Q := u_iconst d68_36
theorem d68_37 : decode (mB 68) 37 = .ok (.goto 4, 3) := by decide +kernel
theorem u68_37 {d : Nat} {ls : Lo} {st : List Va} {σ : Sg} {Q : Rs → Sg → Prop} : Wx d 68 37 ls st σ Q ↔ Wx d 68 41 ls st σ Q := u_goto d68_37 (by decide)
theorem d68_40 : decode (mB 68) 40 = .ok (.iconst 0, 1) := by decide +kernel
theorem u68_40 {d : Nat} {ls : Lo} {st : List Va} {σ : Sg} {Q : Rs → Sg → Prop} : Wx d 68 40 ls st σ Q ↔ Wx d 68 41 ls (vi 0 :: st) σ Q := u_iconst d68_40
theorem d68_41 : decode (mB 68) 41 = .ok (.iload_n 2, 1) := by decide +kernel
theorem u68_41 {d : Nat} {ls : Lo} {st : List Va} {σ : Sg} {Q : Rs → Sg → Prop} : Wx d 68 41 ls st σ Q ↔ Li (lget ls 2) (fun z => Wx d 68 42 ls (vi z :: st) σ Q) := u_iload_n d68_41
theorem d68_42 : decode (mB 68) 42 = .ok (.iconst 0, 1) := by decide +kernel
theorem u68_42 {d : Nat} {ls : Lo} {st : List Va} {σ : Sg} {Q : Rs → Sg → Prop} : Wx d 68 42 ls st σ Q ↔ Wx d 68 43 ls (vi 0 :: st) σ Q := u_iconst d68_42
theorem d68_43 : decode (mB 68) 43 = .ok (.iload_n 3, 1) := by decide +kernel
theorem u68_43 {d : Nat} {ls : Lo} {st : List Va} {σ : Sg} {Q : Rs → Sg → Prop} : Wx d 68 43 ls st σ Q ↔ Li (lget ls 3) (fun z => Wx d 68 44 ls (vi z :: st) σ Q) := u_iload_n d68_43
theorem d68_44 : decode (mB 68) 44 = .ok (.invokevirtual 61, 3) := by decide +kernel
theorem u68_44 {d : Nat} {ls : Lo} {st : List Va} {σ : Sg} {Q : Rs → Sg → Prop} {g j : Nat} {a1 a2 a3 a4 : Va} : Wx (d + 1) 68 44 ls (a4 :: a3 :: a2 :: a1 :: vr g j :: st) σ Q ↔ (isO g j 6 ∧ st.length ≤ 4 ∧ nlg [a4, a3, a2, a1] = true) ∧ Wm d 73 [vr g j, a1, a2, a3, a4] σ (Kc (d + 1) 68 47 ls st Q) := u_inv4 d68_44 rfl rfl rfl
theorem d68_47 : decode (mB 68) 47 = .ok (.iinc 3 1, 3) := by decide +kernel
theorem u68_47 {d : Nat} {ls : Lo} {st : List Va} {σ : Sg} {Q : Rs → Sg → Prop} : Wx d 68 47 ls st σ Q ↔ Li (lget ls 3) (fun z => Wx d 68 50 (lset ls 3 (vi (z + 1))) st σ Q) := u_iinc d68_47 (by decide)
theorem d68_50 : decode (mB 68) 50 = .ok (.goto (-48), 3) := by decide +kernel
theorem u68_50 {d : Nat} {ls : Lo} {st : List Va} {σ : Sg} {Q : Rs → Sg → Prop} : Wx d 68 50 ls st σ Q ↔ Wx d 68 2 ls st σ Q := u_goto d68_50 (by decide)
theorem d68_53 : decode (mB 68) 53 = .ok (.iconst 0, 1) := by decide +kernel
theorem u68_53 {d : Nat} {ls : Lo} {st : List Va} {σ : Sg} {Q : Rs → Sg → Prop} : Wx d 68 53 ls st σ Q ↔ Wx d 68 54 ls (vi 0 :: st) σ Q := u_iconst d68_53
theorem d68_54 : decode (mB 68) 54 = .ok (.istore_n 3, 1) := by decide +kernel
theorem u68_54 {d : Nat} {ls : Lo} {st : List Va} {σ : Sg} {Q : Rs → Sg → Prop} {z : Int} : Wx d 68 54 ls (vi z :: st) σ Q ↔ Wx d 68 55 (lset ls 3 (vi z)) st σ Q := u_istore_n d68_54 (by decide)
theorem d68_55 : decode (mB 68) 55 = .ok (.iload_n 3, 1) := by decide +kernel
theorem u68_55 {d : Nat} {ls : Lo} {st : List Va} {σ : Sg} {Q : Rs → Sg → Prop} : Wx d 68 55 ls st σ Q ↔ Li (lget ls 3) (fun z => Wx d 68 56 ls (vi z :: st) σ Q) := u_iload_n d68_55
theorem d68_56 : decode (mB 68) 56 = .ok (.iconst 3, 1) := by decide +kernel
theorem u68_56 {d : Nat} {ls : Lo} {st : List Va} {σ : Sg} {Q : Rs → Sg → Prop} : Wx d 68 56 ls st σ Q ↔ Wx d 68 57 ls (vi 3 :: st) σ Q := u_iconst d68_56
theorem d68_57 : decode (mB 68) 57 = .ok (.if_icmp .ge 35, 3) := by decide +kernel
theorem u68_57 {d : Nat} {ls : Lo} {st : List Va} {σ : Sg} {Q : Rs → Sg → Prop} {a b : Int} (h : -2147483648 ≤ a ∧ a ≤ 2147483647) (h2 : -2147483648 ≤ b ∧ b ≤ 2147483647) : Wx d 68 57 ls (vi b :: vi a :: st) σ Q ↔ if b ≤ a then Wx d 68 92 ls st σ Q else Wx d 68 60 ls st σ Q := u_icge d68_57 (by decide) h h2
theorem d68_60 : decode (mB 68) 60 = .ok (.aload_n 0, 1) := by decide +kernel
theorem u68_60 {d : Nat} {ls : Lo} {st : List Va} {σ : Sg} {Q : Rs → Sg → Prop} : Wx d 68 60 ls st σ Q ↔ Lr (lget ls 0) (fun z => Wx d 68 61 ls (.inr (.inl z) :: st) σ Q) := u_aload_n d68_60
theorem d68_61 : decode (mB 68) 61 = .ok (.aload_n 1, 1) := by decide +kernel
theorem u68_61 {d : Nat} {ls : Lo} {st : List Va} {σ : Sg} {Q : Rs → Sg → Prop} : Wx d 68 61 ls st σ Q ↔ Lr (lget ls 1) (fun z => Wx d 68 62 ls (.inr (.inl z) :: st) σ Q) := u_aload_n d68_61
theorem d68_62 : decode (mB 68) 62 = .ok (.iload_n 3, 1) := by decide +kernel
theorem u68_62 {d : Nat} {ls : Lo} {st : List Va} {σ : Sg} {Q : Rs → Sg → Prop} : Wx d 68 62 ls st σ Q ↔ Li (lget ls 3) (fun z => Wx d 68 63 ls (vi z :: st) σ Q) := u_iload_n d68_62
theorem d68_63 : decode (mB 68) 63 = .ok (.invokevirtual 65, 3) := by decide +kernel
theorem u68_63 {d : Nat} {ls : Lo} {st : List Va} {σ : Sg} {Q : Rs → Sg → Prop} {g j : Nat} {a1 : Va} : Wx (d + 1) 68 63 ls (a1 :: vr g j :: st) σ Q ↔ (isO g j 3 ∧ st.length ≤ 4 ∧ nlg [a1] = true) ∧ Wm d 44 [vr g j, a1] σ (Kc (d + 1) 68 66 ls st Q) := u_inv1 d68_63 rfl rfl rfl
theorem d68_66 : decode (mB 68) 66 = .ok (.ifCond .ge 7, 3) := by decide +kernel
theorem u68_66 {d : Nat} {ls : Lo} {st : List Va} {σ : Sg} {Q : Rs → Sg → Prop} {a : Int} (h : -2147483648 ≤ a ∧ a ≤ 2147483647) : Wx d 68 66 ls (vi a :: st) σ Q ↔ if 0 ≤ a then Wx d 68 73 ls st σ Q else Wx d 68 69 ls st σ Q := u_ifge d68_66 (by decide) h
theorem d68_69 : decode (mB 68) 69 = .ok (.iconst 1, 1) := by decide +kernel
theorem u68_69 {d : Nat} {ls : Lo} {st : List Va} {σ : Sg} {Q : Rs → Sg → Prop} : Wx d 68 69 ls st σ Q ↔ Wx d 68 70 ls (vi 1 :: st) σ Q := u_iconst d68_69
theorem d68_70 : decode (mB 68) 70 = .ok (.goto 4, 3) := by decide +kernel
theorem u68_70 {d : Nat} {ls : Lo} {st : List Va} {σ : Sg} {Q : Rs → Sg → Prop} : Wx d 68 70 ls st σ Q ↔ Wx d 68 74 ls st σ Q := u_goto d68_70 (by decide)
theorem d68_73 : decode (mB 68) 73 = .ok (.iconst 0, 1) := by decide +kernel
theorem u68_73 {d : Nat} {ls : Lo} {st : List Va} {σ : Sg} {Q : Rs → Sg → Prop} : Wx d 68 73 ls st σ Q ↔ Wx d 68 74 ls (vi 0 :: st) σ Q := u_iconst d68_73
theorem d68_74 : decode (mB 68) 74 = .ok (.iload_n 2, 1) := by decide +kernel
theorem u68_74 {d : Nat} {ls : Lo} {st : List Va} {σ : Sg} {Q : Rs → Sg → Prop} : Wx d 68 74 ls st σ Q ↔ Li (lget ls 2) (fun z => Wx d 68 75 ls (vi z :: st) σ Q) := u_iload_n d68_74
theorem d68_75 : decode (mB 68) 75 = .ok (.iconst 1, 1) := by decide +kernel
theorem u68_75 {d : Nat} {ls : Lo} {st : List Va} {σ : Sg} {Q : Rs → Sg → Prop} : Wx d 68 75 ls st σ Q ↔ Wx d 68 76 ls (vi 1 :: st) σ Q := u_iconst d68_75
theorem d68_76 : decode (mB 68) 76 = .ok (.iload_n 3, 1) := by decide +kernel
theorem u68_76 {d : Nat} {ls : Lo} {st : List Va} {σ : Sg} {Q : Rs → Sg → Prop} : Wx d 68 76 ls st σ Q ↔ Li (lget ls 3) (fun z => Wx d 68 77 ls (vi z :: st) σ Q) := u_iload_n d68_76
theorem d68_77 : decode (mB 68) 77 = .ok (.iload_n 3, 1) := by decide +kernel
theorem u68_77 {d : Nat} {ls : Lo} {st : List Va} {σ : Sg} {Q : Rs → Sg → Prop} : Wx d 68 77 ls st σ Q ↔ Li (lget ls 3) (fun z => Wx d 68 78 ls (vi z :: st) σ Q) := u_iload_n d68_77
theorem d68_78 : decode (mB 68) 78 = .ok (.iconst 1, 1) := by decide +kernel
theorem u68_78 {d : Nat} {ls : Lo} {st : List Va} {σ : Sg} {Q : Rs → Sg → Prop} : Wx d 68 78 ls st σ Q ↔ Wx d 68 79 ls (vi 1 :: st) σ Q := u_iconst d68_78
theorem d68_79 : decode (mB 68) 79 = .ok (.iadd, 1) := by decide +kernel
theorem u68_79 {d : Nat} {ls : Lo} {st : List Va} {σ : Sg} {Q : Rs → Sg → Prop} {a b : Int} : Wx d 68 79 ls (vi b :: vi a :: st) σ Q ↔ Wx d 68 80 ls (vi (a + b) :: st) σ Q := u_iadd d68_79
theorem d68_80 : decode (mB 68) 80 = .ok (.invokestatic 69, 3) := by decide +kernel
theorem u68_80 {d : Nat} {ls : Lo} {st : List Va} {σ : Sg} {Q : Rs → Sg → Prop} {a1 a2 : Va} : Wx (d + 1) 68 80 ls (a2 :: a1 :: st) σ Q ↔ (st.length ≤ 4 ∧ nlg [a2, a1] = true) ∧ Wm d 72 [a1, a2] σ (Kc (d + 1) 68 83 ls st Q) := u_sta2 d68_80 rfl rfl rfl (by decide) (by decide) (by decide)
theorem d68_83 : decode (mB 68) 83 = .ok (.invokevirtual 61, 3) := by decide +kernel
theorem u68_83 {d : Nat} {ls : Lo} {st : List Va} {σ : Sg} {Q : Rs → Sg → Prop} {g j : Nat} {a1 a2 a3 a4 : Va} : Wx (d + 1) 68 83 ls (a4 :: a3 :: a2 :: a1 :: vr g j :: st) σ Q ↔ (isO g j 6 ∧ st.length ≤ 4 ∧ nlg [a4, a3, a2, a1] = true) ∧ Wm d 73 [vr g j, a1, a2, a3, a4] σ (Kc (d + 1) 68 86 ls st Q) := u_inv4 d68_83 rfl rfl rfl
theorem d68_86 : decode (mB 68) 86 = .ok (.iinc 3 1, 3) := by decide +kernel
theorem u68_86 {d : Nat} {ls : Lo} {st : List Va} {σ : Sg} {Q : Rs → Sg → Prop} : Wx d 68 86 ls st σ Q ↔ Li (lget ls 3) (fun z => Wx d 68 89 (lset ls 3 (vi (z + 1))) st σ Q) := u_iinc d68_86 (by decide)
theorem d68_89 : decode (mB 68) 89 = .ok (.goto (-34), 3) := by decide +kernel
theorem u68_89 {d : Nat} {ls : Lo} {st : List Va} {σ : Sg} {Q : Rs → Sg → Prop} : Wx d 68 89 ls st σ Q ↔ Wx d 68 55 ls st σ Q := u_goto d68_89 (by decide)
theorem d68_92 : decode (mB 68) 92 = .ok (.iconst 0, 1) := by decide +kernel
theorem u68_92 {d : Nat} {ls : Lo} {st : List Va} {σ : Sg} {Q : Rs → Sg → Prop} : Wx d 68 92 ls st σ Q ↔ Wx d 68 93 ls (vi 0 :: st) σ Q := u_iconst d68_92
theorem d68_93 : decode (mB 68) 93 = .ok (.istore_n 3, 1) := by decide +kernel
theorem u68_93 {d : Nat} {ls : Lo} {st : List Va} {σ : Sg} {Q : Rs → Sg → Prop} {z : Int} : Wx d 68 93 ls (vi z :: st) σ Q ↔ Wx d 68 94 (lset ls 3 (vi z)) st σ Q := u_istore_n d68_93 (by decide)
theorem d68_94 : decode (mB 68) 94 = .ok (.iload_n 3, 1) := by decide +kernel
theorem u68_94 {d : Nat} {ls : Lo} {st : List Va} {σ : Sg} {Q : Rs → Sg → Prop} : Wx d 68 94 ls st σ Q ↔ Li (lget ls 3) (fun z => Wx d 68 95 ls (vi z :: st) σ Q) := u_iload_n d68_94
theorem d68_95 : decode (mB 68) 95 = .ok (.iconst 1, 1) := by decide +kernel
theorem u68_95 {d : Nat} {ls : Lo} {st : List Va} {σ : Sg} {Q : Rs → Sg → Prop} : Wx d 68 95 ls st σ Q ↔ Wx d 68 96 ls (vi 1 :: st) σ Q := u_iconst d68_95
theorem d68_96 : decode (mB 68) 96 = .ok (.iadd, 1) := by decide +kernel
theorem u68_96 {d : Nat} {ls : Lo} {st : List Va} {σ : Sg} {Q : Rs → Sg → Prop} {a b : Int} : Wx d 68 96 ls (vi b :: vi a :: st) σ Q ↔ Wx d 68 97 ls (vi (a + b) :: st) σ Q := u_iadd d68_96
theorem d68_97 : decode (mB 68) 97 = .ok (.iconst 3, 1) := by decide +kernel
theorem u68_97 {d : Nat} {ls : Lo} {st : List Va} {σ : Sg} {Q : Rs → Sg → Prop} : Wx d 68 97 ls st σ Q ↔ Wx d 68 98 ls (vi 3 :: st) σ Q := u_iconst d68_97
theorem d68_98 : decode (mB 68) 98 = .ok (.if_icmp .ge 40, 3) := by decide +kernel
theorem u68_98 {d : Nat} {ls : Lo} {st : List Va} {σ : Sg} {Q : Rs → Sg → Prop} {a b : Int} (h : -2147483648 ≤ a ∧ a ≤ 2147483647) (h2 : -2147483648 ≤ b ∧ b ≤ 2147483647) : Wx d 68 98 ls (vi b :: vi a :: st) σ Q ↔ if b ≤ a then Wx d 68 138 ls st σ Q else Wx d 68 101 ls st σ Q := u_icge d68_98 (by decide) h h2
theorem d68_101 : decode (mB 68) 101 = .ok (.aload_n 0, 1) := by decide +kernel
theorem u68_101 {d : Nat} {ls : Lo} {st : List Va} {σ : Sg} {Q : Rs → Sg → Prop} : Wx d 68 101 ls st σ Q ↔ Lr (lget ls 0) (fun z => Wx d 68 102 ls (.inr (.inl z) :: st) σ Q) := u_aload_n d68_101
theorem d68_102 : decode (mB 68) 102 = .ok (.aload_n 1, 1) := by decide +kernel
theorem u68_102 {d : Nat} {ls : Lo} {st : List Va} {σ : Sg} {Q : Rs → Sg → Prop} : Wx d 68 102 ls st σ Q ↔ Lr (lget ls 1) (fun z => Wx d 68 103 ls (.inr (.inl z) :: st) σ Q) := u_aload_n d68_102
theorem d68_103 : decode (mB 68) 103 = .ok (.iload_n 3, 1) := by decide +kernel
theorem u68_103 {d : Nat} {ls : Lo} {st : List Va} {σ : Sg} {Q : Rs → Sg → Prop} : Wx d 68 103 ls st σ Q ↔ Li (lget ls 3) (fun z => Wx d 68 104 ls (vi z :: st) σ Q) := u_iload_n d68_103
theorem d68_104 : decode (mB 68) 104 = .ok (.invokevirtual 65, 3) := by decide +kernel
theorem u68_104 {d : Nat} {ls : Lo} {st : List Va} {σ : Sg} {Q : Rs → Sg → Prop} {g j : Nat} {a1 : Va} : Wx (d + 1) 68 104 ls (a1 :: vr g j :: st) σ Q ↔ (isO g j 3 ∧ st.length ≤ 4 ∧ nlg [a1] = true) ∧ Wm d 44 [vr g j, a1] σ (Kc (d + 1) 68 107 ls st Q) := u_inv1 d68_104 rfl rfl rfl
theorem d68_107 : decode (mB 68) 107 = .ok (.invokestatic 72, 3) := by decide +kernel
theorem u68_107 {d : Nat} {ls : Lo} {st : List Va} {σ : Sg} {Q : Rs → Sg → Prop} {a : Int} (h : -2147483647 ≤ a ∧ a ≤ 2147483647) (hl : st.length ≤ 4) : Wx d 68 107 ls (vi a :: st) σ Q ↔ Wx d 68 110 ls (vi (a.natAbs : Int) :: st) σ Q := u_abs d68_107 rfl h hl
theorem d68_110 : decode (mB 68) 110 = .ok (.bipush 12, 2) := by decide +kernel
theorem u68_110 {d : Nat} {ls : Lo} {st : List Va} {σ : Sg} {Q : Rs → Sg → Prop} : Wx d 68 110 ls st σ Q ↔ Wx d 68 112 ls (vi 12 :: st) σ Q := u_bipush d68_110 (by decide)
theorem d68_112 : decode (mB 68) 112 = .ok (.if_icmp .le 7, 3) := by decide +kernel
theorem u68_112 {d : Nat} {ls : Lo} {st : List Va} {σ : Sg} {Q : Rs → Sg → Prop} {a b : Int} (h : -2147483648 ≤ a ∧ a ≤ 2147483647) (h2 : -2147483648 ≤ b ∧ b ≤ 2147483647) : Wx d 68 112 ls (vi b :: vi a :: st) σ Q ↔ if a ≤ b then Wx d 68 119 ls st σ Q else Wx d 68 115 ls st σ Q := u_icle d68_112 (by decide) h h2
theorem d68_115 : decode (mB 68) 115 = .ok (.iconst 1, 1) := by decide +kernel
theorem u68_115 {d : Nat} {ls : Lo} {st : List Va} {σ : Sg} {Q : Rs → Sg → Prop} : Wx d 68 115 ls st σ Q ↔ Wx d 68 116 ls (vi 1 :: st) σ Q := u_iconst d68_115
theorem d68_116 : decode (mB 68) 116 = .ok (.goto 4, 3) := by decide +kernel
theorem u68_116 {d : Nat} {ls : Lo} {st : List Va} {σ : Sg} {Q : Rs → Sg → Prop} : Wx d 68 116 ls st σ Q ↔ Wx d 68 120 ls st σ Q := u_goto d68_116 (by decide)
theorem d68_119 : decode (mB 68) 119 = .ok (.iconst 0, 1) := by decide +kernel
theorem u68_119 {d : Nat} {ls : Lo} {st : List Va} {σ : Sg} {Q : Rs → Sg → Prop} : Wx d 68 119 ls st σ Q ↔ Wx d 68 120 ls (vi 0 :: st) σ Q := u_iconst d68_119
theorem d68_120 : decode (mB 68) 120 = .ok (.iload_n 2, 1) := by decide +kernel
theorem u68_120 {d : Nat} {ls : Lo} {st : List Va} {σ : Sg} {Q : Rs → Sg → Prop} : Wx d 68 120 ls st σ Q ↔ Li (lget ls 2) (fun z => Wx d 68 121 ls (vi z :: st) σ Q) := u_iload_n d68_120
theorem d68_121 : decode (mB 68) 121 = .ok (.iconst 2, 1) := by decide +kernel
theorem u68_121 {d : Nat} {ls : Lo} {st : List Va} {σ : Sg} {Q : Rs → Sg → Prop} : Wx d 68 121 ls st σ Q ↔ Wx d 68 122 ls (vi 2 :: st) σ Q := u_iconst d68_121
theorem d68_122 : decode (mB 68) 122 = .ok (.iload_n 3, 1) := by decide +kernel
theorem u68_122 {d : Nat} {ls : Lo} {st : List Va} {σ : Sg} {Q : Rs → Sg → Prop} : Wx d 68 122 ls st σ Q ↔ Li (lget ls 3) (fun z => Wx d 68 123 ls (vi z :: st) σ Q) := u_iload_n d68_122
theorem d68_123 : decode (mB 68) 123 = .ok (.iload_n 3, 1) := by decide +kernel
theorem u68_123 {d : Nat} {ls : Lo} {st : List Va} {σ : Sg} {Q : Rs → Sg → Prop} : Wx d 68 123 ls st σ Q ↔ Li (lget ls 3) (fun z => Wx d 68 124 ls (vi z :: st) σ Q) := u_iload_n d68_123
theorem d68_124 : decode (mB 68) 124 = .ok (.iconst 1, 1) := by decide +kernel
theorem u68_124 {d : Nat} {ls : Lo} {st : List Va} {σ : Sg} {Q : Rs → Sg → Prop} : Wx d 68 124 ls st σ Q ↔ Wx d 68 125 ls (vi 1 :: st) σ Q := u_iconst d68_124
theorem d68_125 : decode (mB 68) 125 = .ok (.iadd, 1) := by decide +kernel
theorem u68_125 {d : Nat} {ls : Lo} {st : List Va} {σ : Sg} {Q : Rs → Sg → Prop} {a b : Int} : Wx d 68 125 ls (vi b :: vi a :: st) σ Q ↔ Wx d 68 126 ls (vi (a + b) :: st) σ Q := u_iadd d68_125
theorem d68_126 : decode (mB 68) 126 = .ok (.invokestatic 69, 3) := by decide +kernel
theorem u68_126 {d : Nat} {ls : Lo} {st : List Va} {σ : Sg} {Q : Rs → Sg → Prop} {a1 a2 : Va} : Wx (d + 1) 68 126 ls (a2 :: a1 :: st) σ Q ↔ (st.length ≤ 4 ∧ nlg [a2, a1] = true) ∧ Wm d 72 [a1, a2] σ (Kc (d + 1) 68 129 ls st Q) := u_sta2 d68_126 rfl rfl rfl (by decide) (by decide) (by decide)
theorem d68_129 : decode (mB 68) 129 = .ok (.invokevirtual 61, 3) := by decide +kernel
theorem u68_129 {d : Nat} {ls : Lo} {st : List Va} {σ : Sg} {Q : Rs → Sg → Prop} {g j : Nat} {a1 a2 a3 a4 : Va} : Wx (d + 1) 68 129 ls (a4 :: a3 :: a2 :: a1 :: vr g j :: st) σ Q ↔ (isO g j 6 ∧ st.length ≤ 4 ∧ nlg [a4, a3, a2, a1] = true) ∧ Wm d 73 [vr g j, a1, a2, a3, a4] σ (Kc (d + 1) 68 132 ls st Q) := u_inv4 d68_129 rfl rfl rfl
theorem d68_132 : decode (mB 68) 132 = .ok (.iinc 3 1, 3) := by decide +kernel
theorem u68_132 {d : Nat} {ls : Lo} {st : List Va} {σ : Sg} {Q : Rs → Sg → Prop} : Wx d 68 132 ls st σ Q ↔ Li (lget ls 3) (fun z => Wx d 68 135 (lset ls 3 (vi (z + 1))) st σ Q) := u_iinc d68_132 (by decide)
theorem d68_135 : decode (mB 68) 135 = .ok (.goto (-41), 3) := by decide +kernel
theorem u68_135 {d : Nat} {ls : Lo} {st : List Va} {σ : Sg} {Q : Rs → Sg → Prop} : Wx d 68 135 ls st σ Q ↔ Wx d 68 94 ls st σ Q := u_goto d68_135 (by decide)
theorem d68_138 : decode (mB 68) 138 = .ok (.iconst 0, 1) := by decide +kernel
theorem u68_138 {d : Nat} {ls : Lo} {st : List Va} {σ : Sg} {Q : Rs → Sg → Prop} : Wx d 68 138 ls st σ Q ↔ Wx d 68 139 ls (vi 0 :: st) σ Q := u_iconst d68_138
theorem d68_139 : decode (mB 68) 139 = .ok (.istore_n 3, 1) := by decide +kernel
theorem u68_139 {d : Nat} {ls : Lo} {st : List Va} {σ : Sg} {Q : Rs → Sg → Prop} {z : Int} : Wx d 68 139 ls (vi z :: st) σ Q ↔ Wx d 68 140 (lset ls 3 (vi z)) st σ Q := u_istore_n d68_139 (by decide)
theorem d68_140 : decode (mB 68) 140 = .ok (.iload_n 3, 1) := by decide +kernel
theorem u68_140 {d : Nat} {ls : Lo} {st : List Va} {σ : Sg} {Q : Rs → Sg → Prop} : Wx d 68 140 ls st σ Q ↔ Li (lget ls 3) (fun z => Wx d 68 141 ls (vi z :: st) σ Q) := u_iload_n d68_140
theorem d68_141 : decode (mB 68) 141 = .ok (.iconst 3, 1) := by decide +kernel
theorem u68_141 {d : Nat} {ls : Lo} {st : List Va} {σ : Sg} {Q : Rs → Sg → Prop} : Wx d 68 141 ls st σ Q ↔ Wx d 68 142 ls (vi 3 :: st) σ Q := u_iconst d68_141
theorem d68_142 : decode (mB 68) 142 = .ok (.if_icmp .ge 34, 3) := by decide +kernel
theorem u68_142 {d : Nat} {ls : Lo} {st : List Va} {σ : Sg} {Q : Rs → Sg → Prop} {a b : Int} (h : -2147483648 ≤ a ∧ a ≤ 2147483647) (h2 : -2147483648 ≤ b ∧ b ≤ 2147483647) : Wx d 68 142 ls (vi b :: vi a :: st) σ Q ↔ if b ≤ a then Wx d 68 176 ls st σ Q else Wx d 68 145 ls st σ Q := u_icge d68_142 (by decide) h h2
theorem d68_145 : decode (mB 68) 145 = .ok (.aload_n 0, 1) := by decide +kernel
theorem u68_145 {d : Nat} {ls : Lo} {st : List Va} {σ : Sg} {Q : Rs → Sg → Prop} : Wx d 68 145 ls st σ Q ↔ Lr (lget ls 0) (fun z => Wx d 68 146 ls (.inr (.inl z) :: st) σ Q) := u_aload_n d68_145
theorem d68_146 : decode (mB 68) 146 = .ok (.aload_n 1, 1) := by decide +kernel
theorem u68_146 {d : Nat} {ls : Lo} {st : List Va} {σ : Sg} {Q : Rs → Sg → Prop} : Wx d 68 146 ls st σ Q ↔ Lr (lget ls 1) (fun z => Wx d 68 147 ls (.inr (.inl z) :: st) σ Q) := u_aload_n d68_146
theorem d68_147 : decode (mB 68) 147 = .ok (.aload_n 1, 1) := by decide +kernel
theorem u68_147 {d : Nat} {ls : Lo} {st : List Va} {σ : Sg} {Q : Rs → Sg → Prop} : Wx d 68 147 ls st σ Q ↔ Lr (lget ls 1) (fun z => Wx d 68 148 ls (.inr (.inl z) :: st) σ Q) := u_aload_n d68_147
theorem d68_148 : decode (mB 68) 148 = .ok (.iconst (-1), 1) := by decide +kernel
theorem u68_148 {d : Nat} {ls : Lo} {st : List Va} {σ : Sg} {Q : Rs → Sg → Prop} : Wx d 68 148 ls st σ Q ↔ Wx d 68 149 ls (vi (-1) :: st) σ Q := u_iconst d68_148
theorem d68_149 : decode (mB 68) 149 = .ok (.iload_n 3, 1) := by decide +kernel
theorem u68_149 {d : Nat} {ls : Lo} {st : List Va} {σ : Sg} {Q : Rs → Sg → Prop} : Wx d 68 149 ls st σ Q ↔ Li (lget ls 3) (fun z => Wx d 68 150 ls (vi z :: st) σ Q) := u_iload_n d68_149
theorem d68_150 : decode (mB 68) 150 = .ok (.invokevirtual 51, 3) := by decide +kernel
theorem u68_150 {d : Nat} {ls : Lo} {st : List Va} {σ : Sg} {Q : Rs → Sg → Prop} {g j : Nat} {a1 a2 : Va} : Wx (d + 1) 68 150 ls (a2 :: a1 :: vr g j :: st) σ Q ↔ (isO g j 3 ∧ st.length ≤ 4 ∧ nlg [a2, a1] = true) ∧ Wm d 43 [vr g j, a1, a2] σ (Kc (d + 1) 68 153 ls st Q) := u_inv2 d68_150 rfl rfl rfl
theorem d68_153 : decode (mB 68) 153 = .ok (.invokevirtual 77, 3) := by decide +kernel
theorem u68_153 {d : Nat} {ls : Lo} {st : List Va} {σ : Sg} {Q : Rs → Sg → Prop} {g j : Nat} {a1 : Va} : Wx (d + 1) 68 153 ls (a1 :: vr g j :: st) σ Q ↔ (isO g j 3 ∧ st.length ≤ 4 ∧ nlg [a1] = true) ∧ Wm d 37 [vr g j, a1] σ (Kc (d + 1) 68 156 ls st Q) := u_inv1 d68_153 rfl rfl rfl
theorem d68_156 : decode (mB 68) 156 = .ok (.ifCond .ne 7, 3) := by decide +kernel
theorem u68_156 {d : Nat} {ls : Lo} {st : List Va} {σ : Sg} {Q : Rs → Sg → Prop} {a : Int} (h : -2147483648 ≤ a ∧ a ≤ 2147483647) : Wx d 68 156 ls (vi a :: st) σ Q ↔ if ¬ a = 0 then Wx d 68 163 ls st σ Q else Wx d 68 159 ls st σ Q := u_ifne d68_156 (by decide) h
theorem d68_159 : decode (mB 68) 159 = .ok (.iconst 1, 1) := by decide +kernel
theorem u68_159 {d : Nat} {ls : Lo} {st : List Va} {σ : Sg} {Q : Rs → Sg → Prop} : Wx d 68 159 ls st σ Q ↔ Wx d 68 160 ls (vi 1 :: st) σ Q := u_iconst d68_159
theorem d68_160 : decode (mB 68) 160 = .ok (.goto 4, 3) := by decide +kernel
theorem u68_160 {d : Nat} {ls : Lo} {st : List Va} {σ : Sg} {Q : Rs → Sg → Prop} : Wx d 68 160 ls st σ Q ↔ Wx d 68 164 ls st σ Q := u_goto d68_160 (by decide)
theorem d68_163 : decode (mB 68) 163 = .ok (.iconst 0, 1) := by decide +kernel
theorem u68_163 {d : Nat} {ls : Lo} {st : List Va} {σ : Sg} {Q : Rs → Sg → Prop} : Wx d 68 163 ls st σ Q ↔ Wx d 68 164 ls (vi 0 :: st) σ Q := u_iconst d68_163
theorem d68_164 : decode (mB 68) 164 = .ok (.iload_n 2, 1) := by decide +kernel
theorem u68_164 {d : Nat} {ls : Lo} {st : List Va} {σ : Sg} {Q : Rs → Sg → Prop} : Wx d 68 164 ls st σ Q ↔ Li (lget ls 2) (fun z => Wx d 68 165 ls (vi z :: st) σ Q) := u_iload_n d68_164
theorem d68_165 : decode (mB 68) 165 = .ok (.iconst 3, 1) := by decide +kernel
theorem u68_165 {d : Nat} {ls : Lo} {st : List Va} {σ : Sg} {Q : Rs → Sg → Prop} : Wx d 68 165 ls st σ Q ↔ Wx d 68 166 ls (vi 3 :: st) σ Q := u_iconst d68_165
theorem d68_166 : decode (mB 68) 166 = .ok (.iload_n 3, 1) := by decide +kernel
theorem u68_166 {d : Nat} {ls : Lo} {st : List Va} {σ : Sg} {Q : Rs → Sg → Prop} : Wx d 68 166 ls st σ Q ↔ Li (lget ls 3) (fun z => Wx d 68 167 ls (vi z :: st) σ Q) := u_iload_n d68_166
theorem d68_167 : decode (mB 68) 167 = .ok (.invokevirtual 61, 3) := by decide +kernel
theorem u68_167 {d : Nat} {ls : Lo} {st : List Va} {σ : Sg} {Q : Rs → Sg → Prop} {g j : Nat} {a1 a2 a3 a4 : Va} : Wx (d + 1) 68 167 ls (a4 :: a3 :: a2 :: a1 :: vr g j :: st) σ Q ↔ (isO g j 6 ∧ st.length ≤ 4 ∧ nlg [a4, a3, a2, a1] = true) ∧ Wm d 73 [vr g j, a1, a2, a3, a4] σ (Kc (d + 1) 68 170 ls st Q) := u_inv4 d68_167 rfl rfl rfl
theorem d68_170 : decode (mB 68) 170 = .ok (.iinc 3 1, 3) := by decide +kernel
theorem u68_170 {d : Nat} {ls : Lo} {st : List Va} {σ : Sg} {Q : Rs → Sg → Prop} : Wx d 68 170 ls st σ Q ↔ Li (lget ls 3) (fun z => Wx d 68 173 (lset ls 3 (vi (z + 1))) st σ Q) := u_iinc d68_170 (by decide)
theorem d68_173 : decode (mB 68) 173 = .ok (.goto (-33), 3) := by decide +kernel
theorem u68_173 {d : Nat} {ls : Lo} {st : List Va} {σ : Sg} {Q : Rs → Sg → Prop} : Wx d 68 173 ls st σ Q ↔ Wx d 68 140 ls st σ Q := u_goto d68_173 (by decide)
theorem d68_176 : decode (mB 68) 176 = .ok (.return_, 1) := by decide +kernel
theorem u68_176 {d : Nat} {ls : Lo} {σ : Sg} {Q : Rs → Sg → Prop} : Wx d 68 176 ls [] σ Q ↔ Q (.inl none) σ := u_vret d68_176 rfl
/-! 69: FiguredBass$Examination.lookAtMove(I)V -/
theorem d69_0 : decode (mB 69) 0 = .ok (.iconst 0, 1) := by decide +kernel
theorem u69_0 {d : Nat} {ls : Lo} {st : List Va} {σ : Sg} {Q : Rs → Sg → Prop} : Wx d 69 0 ls st σ Q ↔ Wx d 69 1 ls (vi 0 :: st) σ Q := u_iconst d69_0
theorem d69_1 : decode (mB 69) 1 = .ok (.istore_n 2, 1) := by decide +kernel
theorem u69_1 {d : Nat} {ls : Lo} {st : List Va} {σ : Sg} {Q : Rs → Sg → Prop} {z : Int} : Wx d 69 1 ls (vi z :: st) σ Q ↔ Wx d 69 2 (lset ls 2 (vi z)) st σ Q := u_istore_n d69_1 (by decide)
theorem d69_2 : decode (mB 69) 2 = .ok (.iload_n 2, 1) := by decide +kernel
theorem u69_2 {d : Nat} {ls : Lo} {st : List Va} {σ : Sg} {Q : Rs → Sg → Prop} : Wx d 69 2 ls st σ Q ↔ Li (lget ls 2) (fun z => Wx d 69 3 ls (vi z :: st) σ Q) := u_iload_n d69_2
theorem d69_3 : decode (mB 69) 3 = .ok (.iconst 4, 1) := by decide +kernel
theorem u69_3 {d : Nat} {ls : Lo} {st : List Va} {σ : Sg} {Q : Rs → Sg → Prop} : Wx d 69 3 ls st σ Q ↔ Wx d 69 4 ls (vi 4 :: st) σ Q := u_iconst d69_3
theorem d69_4 : decode (mB 69) 4 = .ok (.if_icmp .ge 44, 3) := by decide +kernel
theorem u69_4 {d : Nat} {ls : Lo} {st : List Va} {σ : Sg} {Q : Rs → Sg → Prop} {a b : Int} (h : -2147483648 ≤ a ∧ a ≤ 2147483647) (h2 : -2147483648 ≤ b ∧ b ≤ 2147483647) : Wx d 69 4 ls (vi b :: vi a :: st) σ Q ↔ if b ≤ a then Wx d 69 48 ls st σ Q else Wx d 69 7 ls st σ Q := u_icge d69_4 (by decide) h h2
theorem d69_7 : decode (mB 69) 7 = .ok (.iload_n 2, 1) := by decide +kernel
theorem u69_7 {d : Nat} {ls : Lo} {st : List Va} {σ : Sg} {Q : Rs → Sg → Prop} : Wx d 69 7 ls st σ Q ↔ Li (lget ls 2) (fun z => Wx d 69 8 ls (vi z :: st) σ Q) := u_iload_n d69_7
theorem d69_8 : decode (mB 69) 8 = .ok (.iconst 1, 1) := by decide +kernel
theorem u69_8 {d : Nat} {ls : Lo} {st : List Va} {σ : Sg} {Q : Rs → Sg → Prop} : Wx d 69 8 ls st σ Q ↔ Wx d 69 9 ls (vi 1 :: st) σ Q := u_iconst d69_8
theorem d69_9 : decode (mB 69) 9 = .ok (.iadd, 1) := by decide +kernel
theorem u69_9 {d : Nat} {ls : Lo} {st : List Va} {σ : Sg} {Q : Rs → Sg → Prop} {a b : Int} : Wx d 69 9 ls (vi b :: vi a :: st) σ Q ↔ Wx d 69 10 ls (vi (a + b) :: st) σ Q := u_iadd d69_9
theorem d69_10 : decode (mB 69) 10 = .ok (.istore_n 3, 1) := by decide +kernel
theorem u69_10 {d : Nat} {ls : Lo} {st : List Va} {σ : Sg} {Q : Rs → Sg → Prop} {z : Int} : Wx d 69 10 ls (vi z :: st) σ Q ↔ Wx d 69 11 (lset ls 3 (vi z)) st σ Q := u_istore_n d69_10 (by decide)
theorem d69_11 : decode (mB 69) 11 = .ok (.iload_n 3, 1) := by decide +kernel
theorem u69_11 {d : Nat} {ls : Lo} {st : List Va} {σ : Sg} {Q : Rs → Sg → Prop} : Wx d 69 11 ls st σ Q ↔ Li (lget ls 3) (fun z => Wx d 69 12 ls (vi z :: st) σ Q) := u_iload_n d69_11
theorem d69_12 : decode (mB 69) 12 = .ok (.iconst 4, 1) := by decide +kernel
theorem u69_12 {d : Nat} {ls : Lo} {st : List Va} {σ : Sg} {Q : Rs → Sg → Prop} : Wx d 69 12 ls st σ Q ↔ Wx d 69 13 ls (vi 4 :: st) σ Q := u_iconst d69_12
theorem d69_13 : decode (mB 69) 13 = .ok (.if_icmp .ge 29, 3) := by decide +kernel
theorem u69_13 {d : Nat} {ls : Lo} {st : List Va} {σ : Sg} {Q : Rs → Sg → Prop} {a b : Int} (h : -2147483648 ≤ a ∧ a ≤ 2147483647) (h2 : -2147483648 ≤ b ∧ b ≤ 2147483647) : Wx d 69 13 ls (vi b :: vi a :: st) σ Q ↔ if b ≤ a then Wx d 69 42 ls st σ Q else Wx d 69 16 ls st σ Q := u_icge d69_13 (by decide) h h2
theorem d69_16 : decode (mB 69) 16 = .ok (.aload_n 0, 1) := by decide +kernel
theorem u69_16 {d : Nat} {ls : Lo} {st : List Va} {σ : Sg} {Q : Rs → Sg → Prop} : Wx d 69 16 ls st σ Q ↔ Lr (lget ls 0) (fun z => Wx d 69 17 ls (.inr (.inl z) :: st) σ Q) := u_aload_n d69_16
theorem d69_17 : decode (mB 69) 17 = .ok (.aload_n 0, 1) := by decide +kernel
theorem u69_17 {d : Nat} {ls : Lo} {st : List Va} {σ : Sg} {Q : Rs → Sg → Prop} : Wx d 69 17 ls st σ Q ↔ Lr (lget ls 0) (fun z => Wx d 69 18 ls (.inr (.inl z) :: st) σ Q) := u_aload_n d69_17
theorem d69_18 : decode (mB 69) 18 = .ok (.getfield 12, 3) := by decide +kernel
theorem u69_18 {d : Nat} {ls : Lo} {st : List Va} {σ : Sg} {Q : Rs → Sg → Prop} {g j : Nat} : Wx d 69 18 ls (vr g j :: st) σ Q ↔ isO g j 6 ∧ Wx d 69 21 ls (fvv σ g j 0 :: st) σ Q := u_get (w := (6, 0)) d69_18 rfl
theorem d69_21 : decode (mB 69) 21 = .ok (.iload_n 2, 1) := by decide +kernel
theorem u69_21 {d : Nat} {ls : Lo} {st : List Va} {σ : Sg} {Q : Rs → Sg → Prop} : Wx d 69 21 ls st σ Q ↔ Li (lget ls 2) (fun z => Wx d 69 22 ls (vi z :: st) σ Q) := u_iload_n d69_21
theorem d69_22 : decode (mB 69) 22 = .ok (.iload_n 3, 1) := by decide +kernel
theorem u69_22 {d : Nat} {ls : Lo} {st : List Va} {σ : Sg} {Q : Rs → Sg → Prop} : Wx d 69 22 ls st σ Q ↔ Li (lget ls 3) (fun z => Wx d 69 23 ls (vi z :: st) σ Q) := u_iload_n d69_22
theorem d69_23 : decode (mB 69) 23 = .ok (.invokevirtual 81, 3) := by decide +kernel
theorem u69_23 {d : Nat} {ls : Lo} {st : List Va} {σ : Sg} {Q : Rs → Sg → Prop} {g j : Nat} {a1 a2 : Va} : Wx (d + 1) 69 23 ls (a2 :: a1 :: vr g j :: st) σ Q ↔ (isO g j 4 ∧ st.length ≤ 4 ∧ nlg [a2, a1] = true) ∧ Wm d 51 [vr g j, a1, a2] σ (Kc (d + 1) 69 26 ls st Q) := u_inv2 d69_23 rfl rfl rfl
theorem d69_26 : decode (mB 69) 26 = .ok (.iload_n 1, 1) := by decide +kernel
theorem u69_26 {d : Nat} {ls : Lo} {st : List Va} {σ : Sg} {Q : Rs → Sg → Prop} : Wx d 69 26 ls st σ Q ↔ Li (lget ls 1) (fun z => Wx d 69 27 ls (vi z :: st) σ Q) := u_iload_n d69_26
theorem d69_27 : decode (mB 69) 27 = .ok (.iconst 4, 1) := by decide +kernel
theorem u69_27 {d : Nat} {ls : Lo} {st : List Va} {σ : Sg} {Q : Rs → Sg → Prop} : Wx d 69 27 ls st σ Q ↔ Wx d 69 28 ls (vi 4 :: st) σ Q := u_iconst d69_27
theorem d69_28 : decode (mB 69) 28 = .ok (.iload_n 2, 1) := by decide +kernel
theorem u69_28 {d : Nat} {ls : Lo} {st : List Va} {σ : Sg} {Q : Rs → Sg → Prop} : Wx d 69 28 ls st σ Q ↔ Li (lget ls 2) (fun z => Wx d 69 29 ls (vi z :: st) σ Q) := u_iload_n d69_28
theorem d69_29 : decode (mB 69) 29 = .ok (.iload_n 3, 1) := by decide +kernel
theorem u69_29 {d : Nat} {ls : Lo} {st : List Va} {σ : Sg} {Q : Rs → Sg → Prop} : Wx d 69 29 ls st σ Q ↔ Li (lget ls 3) (fun z => Wx d 69 30 ls (vi z :: st) σ Q) := u_iload_n d69_29
theorem d69_30 : decode (mB 69) 30 = .ok (.invokestatic 69, 3) := by decide +kernel
theorem u69_30 {d : Nat} {ls : Lo} {st : List Va} {σ : Sg} {Q : Rs → Sg → Prop} {a1 a2 : Va} : Wx (d + 1) 69 30 ls (a2 :: a1 :: st) σ Q ↔ (st.length ≤ 4 ∧ nlg [a2, a1] = true) ∧ Wm d 72 [a1, a2] σ (Kc (d + 1) 69 33 ls st Q) := u_sta2 d69_30 rfl rfl rfl (by decide) (by decide) (by decide)
theorem d69_33 : decode (mB 69) 33 = .ok (.invokevirtual 61, 3) := by decide +kernel
theorem u69_33 {d : Nat} {ls : Lo} {st : List Va} {σ : Sg} {Q : Rs → Sg → Prop} {g j : Nat} {a1 a2 a3 a4 : Va} : Wx (d + 1) 69 33 ls (a4 :: a3 :: a2 :: a1 :: vr g j :: st) σ Q ↔ (isO g j 6 ∧ st.length ≤ 4 ∧ nlg [a4, a3, a2, a1] = true) ∧ Wm d 73 [vr g j, a1, a2, a3, a4] σ (Kc (d + 1) 69 36 ls st Q) := u_inv4 d69_33 rfl rfl rfl
theorem d69_36 : decode (mB 69) 36 = .ok (.iinc 3 1, 3) := by decide +kernel
theorem u69_36 {d : Nat} {ls : Lo} {st : List Va} {σ : Sg} {Q : Rs → Sg → Prop} : Wx d 69 36 ls st σ Q ↔ Li (lget ls 3) (fun z => Wx d 69 39 (lset ls 3 (vi (z + 1))) st σ Q) := u_iinc d69_36 (by decide)
theorem d69_39 : decode (mB 69) 39 = .ok (.goto (-28), 3) := by decide +kernel
theorem u69_39 {d : Nat} {ls : Lo} {st : List Va} {σ : Sg} {Q : Rs → Sg → Prop} : Wx d 69 39 ls st σ Q ↔ Wx d 69 11 ls st σ Q := u_goto d69_39 (by decide)
theorem d69_42 : decode (mB 69) 42 = .ok (.iinc 2 1, 3) := by decide +kernel
theorem u69_42 {d : Nat} {ls : Lo} {st : List Va} {σ : Sg} {Q : Rs → Sg → Prop} : Wx d 69 42 ls st σ Q ↔ Li (lget ls 2) (fun z => Wx d 69 45 (lset ls 2 (vi (z + 1))) st σ Q) := u_iinc d69_42 (by decide)
theorem d69_45 : decode (mB 69) 45 = .ok (.goto (-43), 3) := by decide +kernel
theorem u69_45 {d : Nat} {ls : Lo} {st : List Va} {σ : Sg} {Q : Rs → Sg → Prop} : Wx d 69 45 ls st σ Q ↔ Wx d 69 2 ls st σ Q := u_goto d69_45 (by decide)
theorem d69_48 : decode (mB 69) 48 = .ok (.iconst 0, 1) := by decide +kernel
theorem u69_48 {d : Nat} {ls : Lo} {st : List Va} {σ : Sg} {Q : Rs → Sg → Prop} : Wx d 69 48 ls st σ Q ↔ Wx d 69 49 ls (vi 0 :: st) σ Q := u_iconst d69_48
theorem d69_49 : decode (mB 69) 49 = .ok (.istore_n 2, 1) := by decide +kernel
theorem u69_49 {d : Nat} {ls : Lo} {st : List Va} {σ : Sg} {Q : Rs → Sg → Prop} {z : Int} : Wx d 69 49 ls (vi z :: st) σ Q ↔ Wx d 69 50 (lset ls 2 (vi z)) st σ Q := u_istore_n d69_49 (by decide)
theorem d69_50 : decode (mB 69) 50 = .ok (.iload_n 2, 1) := by decide +kernel
theorem u69_50 {d : Nat} {ls : Lo} {st : List Va} {σ : Sg} {Q : Rs → Sg → Prop} : Wx d 69 50 ls st σ Q ↔ Li (lget ls 2) (fun z => Wx d 69 51 ls (vi z :: st) σ Q) := u_iload_n d69_50
theorem d69_51 : decode (mB 69) 51 = .ok (.iconst 4, 1) := by decide +kernel
theorem u69_51 {d : Nat} {ls : Lo} {st : List Va} {σ : Sg} {Q : Rs → Sg → Prop} : Wx d 69 51 ls st σ Q ↔ Wx d 69 52 ls (vi 4 :: st) σ Q := u_iconst d69_51
theorem d69_52 : decode (mB 69) 52 = .ok (.if_icmp .ge 24, 3) := by decide +kernel
theorem u69_52 {d : Nat} {ls : Lo} {st : List Va} {σ : Sg} {Q : Rs → Sg → Prop} {a b : Int} (h : -2147483648 ≤ a ∧ a ≤ 2147483647) (h2 : -2147483648 ≤ b ∧ b ≤ 2147483647) : Wx d 69 52 ls (vi b :: vi a :: st) σ Q ↔ if b ≤ a then Wx d 69 76 ls st σ Q else Wx d 69 55 ls st σ Q := u_icge d69_52 (by decide) h h2
theorem d69_55 : decode (mB 69) 55 = .ok (.aload_n 0, 1) := by decide +kernel
theorem u69_55 {d : Nat} {ls : Lo} {st : List Va} {σ : Sg} {Q : Rs → Sg → Prop} : Wx d 69 55 ls st σ Q ↔ Lr (lget ls 0) (fun z => Wx d 69 56 ls (.inr (.inl z) :: st) σ Q) := u_aload_n d69_55
theorem d69_56 : decode (mB 69) 56 = .ok (.aload_n 0, 1) := by decide +kernel
theorem u69_56 {d : Nat} {ls : Lo} {st : List Va} {σ : Sg} {Q : Rs → Sg → Prop} : Wx d 69 56 ls st σ Q ↔ Lr (lget ls 0) (fun z => Wx d 69 57 ls (.inr (.inl z) :: st) σ Q) := u_aload_n d69_56
theorem d69_57 : decode (mB 69) 57 = .ok (.getfield 12, 3) := by decide +kernel
theorem u69_57 {d : Nat} {ls : Lo} {st : List Va} {σ : Sg} {Q : Rs → Sg → Prop} {g j : Nat} : Wx d 69 57 ls (vr g j :: st) σ Q ↔ isO g j 6 ∧ Wx d 69 60 ls (fvv σ g j 0 :: st) σ Q := u_get (w := (6, 0)) d69_57 rfl
theorem d69_60 : decode (mB 69) 60 = .ok (.iload_n 2, 1) := by decide +kernel
theorem u69_60 {d : Nat} {ls : Lo} {st : List Va} {σ : Sg} {Q : Rs → Sg → Prop} : Wx d 69 60 ls st σ Q ↔ Li (lget ls 2) (fun z => Wx d 69 61 ls (vi z :: st) σ Q) := u_iload_n d69_60
theorem d69_61 : decode (mB 69) 61 = .ok (.invokevirtual 85, 3) := by decide +kernel
theorem u69_61 {d : Nat} {ls : Lo} {st : List Va} {σ : Sg} {Q : Rs → Sg → Prop} {g j : Nat} {a1 : Va} : Wx (d + 1) 69 61 ls (a1 :: vr g j :: st) σ Q ↔ (isO g j 4 ∧ st.length ≤ 4 ∧ nlg [a1] = true) ∧ Wm d 52 [vr g j, a1] σ (Kc (d + 1) 69 64 ls st Q) := u_inv1 d69_61 rfl rfl rfl
theorem d69_64 : decode (mB 69) 64 = .ok (.iload_n 1, 1) := by decide +kernel
theorem u69_64 {d : Nat} {ls : Lo} {st : List Va} {σ : Sg} {Q : Rs → Sg → Prop} : Wx d 69 64 ls st σ Q ↔ Li (lget ls 1) (fun z => Wx d 69 65 ls (vi z :: st) σ Q) := u_iload_n d69_64
theorem d69_65 : decode (mB 69) 65 = .ok (.iconst 5, 1) := by decide +kernel
theorem u69_65 {d : Nat} {ls : Lo} {st : List Va} {σ : Sg} {Q : Rs → Sg → Prop} : Wx d 69 65 ls st σ Q ↔ Wx d 69 66 ls (vi 5 :: st) σ Q := u_iconst d69_65
theorem d69_66 : decode (mB 69) 66 = .ok (.iload_n 2, 1) := by decide +kernel
theorem u69_66 {d : Nat} {ls : Lo} {st : List Va} {σ : Sg} {Q : Rs → Sg → Prop} : Wx d 69 66 ls st σ Q ↔ Li (lget ls 2) (fun z => Wx d 69 67 ls (vi z :: st) σ Q) := u_iload_n d69_66
theorem d69_67 : decode (mB 69) 67 = .ok (.invokevirtual 61, 3) := by decide +kernel
theorem u69_67 {d : Nat} {ls : Lo} {st : List Va} {σ : Sg} {Q : Rs → Sg → Prop} {g j : Nat} {a1 a2 a3 a4 : Va} : Wx (d + 1) 69 67 ls (a4 :: a3 :: a2 :: a1 :: vr g j :: st) σ Q ↔ (isO g j 6 ∧ st.length ≤ 4 ∧ nlg [a4, a3, a2, a1] = true) ∧ Wm d 73 [vr g j, a1, a2, a3, a4] σ (Kc (d + 1) 69 70 ls st Q) := u_inv4 d69_67 rfl rfl rfl
theorem d69_70 : decode (mB 69) 70 = .ok (.iinc 2 1, 3) := by decide +kernel
theorem u69_70 {d : Nat} {ls : Lo} {st : List Va} {σ : Sg} {Q : Rs → Sg → Prop} : Wx d 69 70 ls st σ Q ↔ Li (lget ls 2) (fun z => Wx d 69 73 (lset ls 2 (vi (z + 1))) st σ Q) := u_iinc d69_70 (by decide)
theorem d69_73 : decode (mB 69) 73 = .ok (.goto (-23), 3) := by decide +kernel
theorem u69_73 {d : Nat} {ls : Lo} {st : List Va} {σ : Sg} {Q : Rs → Sg → Prop} : Wx d 69 73 ls st σ Q ↔ Wx d 69 50 ls st σ Q := u_goto d69_73 (by decide)
theorem d69_76 : decode (mB 69) 76 = .ok (.iconst 0, 1) := by decide +kernel
theorem u69_76 {d : Nat} {ls : Lo} {st : List Va} {σ : Sg} {Q : Rs → Sg → Prop} : Wx d 69 76 ls st σ Q ↔ Wx d 69 77 ls (vi 0 :: st) σ Q := u_iconst d69_76
theorem d69_77 : decode (mB 69) 77 = .ok (.istore_n 2, 1) := by decide +kernel
theorem u69_77 {d : Nat} {ls : Lo} {st : List Va} {σ : Sg} {Q : Rs → Sg → Prop} {z : Int} : Wx d 69 77 ls (vi z :: st) σ Q ↔ Wx d 69 78 (lset ls 2 (vi z)) st σ Q := u_istore_n d69_77 (by decide)
theorem d69_78 : decode (mB 69) 78 = .ok (.iload_n 2, 1) := by decide +kernel
theorem u69_78 {d : Nat} {ls : Lo} {st : List Va} {σ : Sg} {Q : Rs → Sg → Prop} : Wx d 69 78 ls st σ Q ↔ Li (lget ls 2) (fun z => Wx d 69 79 ls (vi z :: st) σ Q) := u_iload_n d69_78
theorem d69_79 : decode (mB 69) 79 = .ok (.iconst 4, 1) := by decide +kernel
theorem u69_79 {d : Nat} {ls : Lo} {st : List Va} {σ : Sg} {Q : Rs → Sg → Prop} : Wx d 69 79 ls st σ Q ↔ Wx d 69 80 ls (vi 4 :: st) σ Q := u_iconst d69_79
theorem d69_80 : decode (mB 69) 80 = .ok (.if_icmp .ge 25, 3) := by decide +kernel
theorem u69_80 {d : Nat} {ls : Lo} {st : List Va} {σ : Sg} {Q : Rs → Sg → Prop} {a b : Int} (h : -2147483648 ≤ a ∧ a ≤ 2147483647) (h2 : -2147483648 ≤ b ∧ b ≤ 2147483647) : Wx d 69 80 ls (vi b :: vi a :: st) σ Q ↔ if b ≤ a then Wx d 69 105 ls st σ Q else Wx d 69 83 ls st σ Q := u_icge d69_80 (by decide) h h2
theorem d69_83 : decode (mB 69) 83 = .ok (.aload_n 0, 1) := by decide +kernel
theorem u69_83 {d : Nat} {ls : Lo} {st : List Va} {σ : Sg} {Q : Rs → Sg → Prop} : Wx d 69 83 ls st σ Q ↔ Lr (lget ls 0) (fun z => Wx d 69 84 ls (.inr (.inl z) :: st) σ Q) := u_aload_n d69_83
theorem d69_84 : decode (mB 69) 84 = .ok (.aload_n 0, 1) := by decide +kernel
theorem u69_84 {d : Nat} {ls : Lo} {st : List Va} {σ : Sg} {Q : Rs → Sg → Prop} : Wx d 69 84 ls st σ Q ↔ Lr (lget ls 0) (fun z => Wx d 69 85 ls (.inr (.inl z) :: st) σ Q) := u_aload_n d69_84
theorem d69_85 : decode (mB 69) 85 = .ok (.getfield 12, 3) := by decide +kernel
theorem u69_85 {d : Nat} {ls : Lo} {st : List Va} {σ : Sg} {Q : Rs → Sg → Prop} {g j : Nat} : Wx d 69 85 ls (vr g j :: st) σ Q ↔ isO g j 6 ∧ Wx d 69 88 ls (fvv σ g j 0 :: st) σ Q := u_get (w := (6, 0)) d69_85 rfl
theorem d69_88 : decode (mB 69) 88 = .ok (.iload_n 2, 1) := by decide +kernel
theorem u69_88 {d : Nat} {ls : Lo} {st : List Va} {σ : Sg} {Q : Rs → Sg → Prop} : Wx d 69 88 ls st σ Q ↔ Li (lget ls 2) (fun z => Wx d 69 89 ls (vi z :: st) σ Q) := u_iload_n d69_88
theorem d69_89 : decode (mB 69) 89 = .ok (.invokevirtual 88, 3) := by decide +kernel
theorem u69_89 {d : Nat} {ls : Lo} {st : List Va} {σ : Sg} {Q : Rs → Sg → Prop} {g j : Nat} {a1 : Va} : Wx (d + 1) 69 89 ls (a1 :: vr g j :: st) σ Q ↔ (isO g j 4 ∧ st.length ≤ 4 ∧ nlg [a1] = true) ∧ Wm d 53 [vr g j, a1] σ (Kc (d + 1) 69 92 ls st Q) := u_inv1 d69_89 rfl rfl rfl
theorem d69_92 : decode (mB 69) 92 = .ok (.iload_n 1, 1) := by decide +kernel
theorem u69_92 {d : Nat} {ls : Lo} {st : List Va} {σ : Sg} {Q : Rs → Sg → Prop} : Wx d 69 92 ls st σ Q ↔ Li (lget ls 1) (fun z => Wx d 69 93 ls (vi z :: st) σ Q) := u_iload_n d69_92
theorem d69_93 : decode (mB 69) 93 = .ok (.bipush 6, 2) := by decide +kernel
theorem u69_93 {d : Nat} {ls : Lo} {st : List Va} {σ : Sg} {Q : Rs → Sg → Prop} : Wx d 69 93 ls st σ Q ↔ Wx d 69 95 ls (vi 6 :: st) σ Q := u_bipush d69_93 (by decide)
theorem d69_95 : decode (mB 69) 95 = .ok (.iload_n 2, 1) := by decide +kernel
theorem u69_95 {d : Nat} {ls : Lo} {st : List Va} {σ : Sg} {Q : Rs → Sg → Prop} : Wx d 69 95 ls st σ Q ↔ Li (lget ls 2) (fun z => Wx d 69 96 ls (vi z :: st) σ Q) := u_iload_n d69_95
theorem d69_96 : decode (mB 69) 96 = .ok (.invokevirtual 61, 3) := by decide +kernel
theorem u69_96 {d : Nat} {ls : Lo} {st : List Va} {σ : Sg} {Q : Rs → Sg → Prop} {g j : Nat} {a1 a2 a3 a4 : Va} : Wx (d + 1) 69 96 ls (a4 :: a3 :: a2 :: a1 :: vr g j :: st) σ Q ↔ (isO g j 6 ∧ st.length ≤ 4 ∧ nlg [a4, a3, a2, a1] = true) ∧ Wm d 73 [vr g j, a1, a2, a3, a4] σ (Kc (d + 1) 69 99 ls st Q) := u_inv4 d69_96 rfl rfl rfl
theorem d69_99 : decode (mB 69) 99 = .ok (.iinc 2 1, 3) := by decide +kernel
theorem u69_99 {d : Nat} {ls : Lo} {st : List Va} {σ : Sg} {Q : Rs → Sg → Prop} : Wx d 69 99 ls st σ Q ↔ Li (lget ls 2) (fun z => Wx d 69 102 (lset ls 2 (vi (z + 1))) st σ Q) := u_iinc d69_99 (by decide)
theorem d69_102 : decode (mB 69) 102 = .ok (.goto (-24), 3) := by decide +kernel
theorem u69_102 {d : Nat} {ls : Lo} {st : List Va} {σ : Sg} {Q : Rs → Sg → Prop} : Wx d 69 102 ls st σ Q ↔ Wx d 69 78 ls st σ Q := u_goto d69_102 (by decide)
theorem d69_105 : decode (mB 69) 105 = .ok (.iconst 0, 1) := by decide +kernel
theorem u69_105 {d : Nat} {ls : Lo} {st : List Va} {σ : Sg} {Q : Rs → Sg → Prop} : Wx d 69 105 ls st σ Q ↔ Wx d 69 106 ls (vi 0 :: st) σ Q := u_iconst d69_105
theorem d69_106 : decode (mB 69) 106 = .ok (.istore_n 2, 1) := by decide +kernel
theorem u69_106 {d : Nat} {ls : Lo} {st : List Va} {σ : Sg} {Q : Rs → Sg → Prop} {z : Int} : Wx d 69 106 ls (vi z :: st) σ Q ↔ Wx d 69 107 (lset ls 2 (vi z)) st σ Q := u_istore_n d69_106 (by decide)
theorem d69_107 : decode (mB 69) 107 = .ok (.iload_n 2, 1) := by decide +kernel
theorem u69_107 {d : Nat} {ls : Lo} {st : List Va} {σ : Sg} {Q : Rs → Sg → Prop} : Wx d 69 107 ls st σ Q ↔ Li (lget ls 2) (fun z => Wx d 69 108 ls (vi z :: st) σ Q) := u_iload_n d69_107
theorem d69_108 : decode (mB 69) 108 = .ok (.iconst 4, 1) := by decide +kernel
theorem u69_108 {d : Nat} {ls : Lo} {st : List Va} {σ : Sg} {Q : Rs → Sg → Prop} : Wx d 69 108 ls st σ Q ↔ Wx d 69 109 ls (vi 4 :: st) σ Q := u_iconst d69_108
theorem d69_109 : decode (mB 69) 109 = .ok (.if_icmp .ge 25, 3) := by decide +kernel
theorem u69_109 {d : Nat} {ls : Lo} {st : List Va} {σ : Sg} {Q : Rs → Sg → Prop} {a b : Int} (h : -2147483648 ≤ a ∧ a ≤ 2147483647) (h2 : -2147483648 ≤ b ∧ b ≤ 2147483647) : Wx d 69 109 ls (vi b :: vi a :: st) σ Q ↔ if b ≤ a then Wx d 69 134 ls st σ Q else Wx d 69 112 ls st σ Q := u_icge d69_109 (by decide) h h2
theorem d69_112 : decode (mB 69) 112 = .ok (.aload_n 0, 1) := by decide +kernel
theorem u69_112 {d : Nat} {ls : Lo} {st : List Va} {σ : Sg} {Q : Rs → Sg → Prop} : Wx d 69 112 ls st σ Q ↔ Lr (lget ls 0) (fun z => Wx d 69 113 ls (.inr (.inl z) :: st) σ Q) := u_aload_n d69_112
theorem d69_113 : decode (mB 69) 113 = .ok (.aload_n 0, 1) := by decide +kernel
theorem u69_113 {d : Nat} {ls : Lo} {st : List Va} {σ : Sg} {Q : Rs → Sg → Prop} : Wx d 69 113 ls st σ Q ↔ Lr (lget ls 0) (fun z => Wx d 69 114 ls (.inr (.inl z) :: st) σ Q) := u_aload_n d69_113
theorem d69_114 : decode (mB 69) 114 = .ok (.getfield 12, 3) := by decide +kernel
theorem u69_114 {d : Nat} {ls : Lo} {st : List Va} {σ : Sg} {Q : Rs → Sg → Prop} {g j : Nat} : Wx d 69 114 ls (vr g j :: st) σ Q ↔ isO g j 6 ∧ Wx d 69 117 ls (fvv σ g j 0 :: st) σ Q := u_get (w := (6, 0)) d69_114 rfl
theorem d69_117 : decode (mB 69) 117 = .ok (.iload_n 2, 1) := by decide +kernel
theorem u69_117 {d : Nat} {ls : Lo} {st : List Va} {σ : Sg} {Q : Rs → Sg → Prop} : Wx d 69 117 ls st σ Q ↔ Li (lget ls 2) (fun z => Wx d 69 118 ls (vi z :: st) σ Q) := u_iload_n d69_117
theorem d69_118 : decode (mB 69) 118 = .ok (.invokevirtual 91, 3) := by decide +kernel
theorem u69_118 {d : Nat} {ls : Lo} {st : List Va} {σ : Sg} {Q : Rs → Sg → Prop} {g j : Nat} {a1 : Va} : Wx (d + 1) 69 118 ls (a1 :: vr g j :: st) σ Q ↔ (isO g j 4 ∧ st.length ≤ 4 ∧ nlg [a1] = true) ∧ Wm d 54 [vr g j, a1] σ (Kc (d + 1) 69 121 ls st Q) := u_inv1 d69_118 rfl rfl rfl
theorem d69_121 : decode (mB 69) 121 = .ok (.iload_n 1, 1) := by decide +kernel
theorem u69_121 {d : Nat} {ls : Lo} {st : List Va} {σ : Sg} {Q : Rs → Sg → Prop} : Wx d 69 121 ls st σ Q ↔ Li (lget ls 1) (fun z => Wx d 69 122 ls (vi z :: st) σ Q) := u_iload_n d69_121
theorem d69_122 : decode (mB 69) 122 = .ok (.bipush 7, 2) := by decide +kernel
theorem u69_122 {d : Nat} {ls : Lo} {st : List Va} {σ : Sg} {Q : Rs → Sg → Prop} : Wx d 69 122 ls st σ Q ↔ Wx d 69 124 ls (vi 7 :: st) σ Q := u_bipush d69_122 (by decide)
theorem d69_124 : decode (mB 69) 124 = .ok (.iload_n 2, 1) := by decide +kernel
theorem u69_124 {d : Nat} {ls : Lo} {st : List Va} {σ : Sg} {Q : Rs → Sg → Prop} : Wx d 69 124 ls st σ Q ↔ Li (lget ls 2) (fun z => Wx d 69 125 ls (vi z :: st) σ Q) := u_iload_n d69_124
theorem d69_125 : decode (mB 69) 125 = .ok (.invokevirtual 61, 3) := by decide +kernel
theorem u69_125 {d : Nat} {ls : Lo} {st : List Va} {σ : Sg} {Q : Rs → Sg → Prop} {g j : Nat} {a1 a2 a3 a4 : Va} : Wx (d + 1) 69 125 ls (a4 :: a3 :: a2 :: a1 :: vr g j :: st) σ Q ↔ (isO g j 6 ∧ st.length ≤ 4 ∧ nlg [a4, a3, a2, a1] = true) ∧ Wm d 73 [vr g j, a1, a2, a3, a4] σ (Kc (d + 1) 69 128 ls st Q) := u_inv4 d69_125 rfl rfl rfl
theorem d69_128 : decode (mB 69) 128 = .ok (.iinc 2 1, 3) := by decide +kernel
theorem u69_128 {d : Nat} {ls : Lo} {st : List Va} {σ : Sg} {Q : Rs → Sg → Prop} : Wx d 69 128 ls st σ Q ↔ Li (lget ls 2) (fun z => Wx d 69 131 (lset ls 2 (vi (z + 1))) st σ Q) := u_iinc d69_128 (by decide)
theorem d69_131 : decode (mB 69) 131 = .ok (.goto (-24), 3) := by decide +kernel
theorem u69_131 {d : Nat} {ls : Lo} {st : List Va} {σ : Sg} {Q : Rs → Sg → Prop} : Wx d 69 131 ls st σ Q ↔ Wx d 69 107 ls st σ Q := u_goto d69_131 (by decide)
theorem d69_134 : decode (mB 69) 134 = .ok (.return_, 1) := by decide +kernel
theorem u69_134 {d : Nat} {ls : Lo} {σ : Sg} {Q : Rs → Sg → Prop} : Wx d 69 134 ls [] σ Q ↔ Q (.inl none) σ := u_vret d69_134 rfl
/-! 70: FiguredBass$Examination.lookForMissingTones(LFiguredBass$Chord;I)V -/
theorem d70_0 : decode (mB 70) 0 = .ok (.iconst 0, 1) := by decide +kernel
theorem u70_0 {d : Nat} {ls : Lo} {st : List Va} {σ : Sg} {Q : Rs → Sg → Prop} : Wx d 70 0 ls st σ Q ↔ Wx d 70 1 ls (vi 0 :: st) σ Q := u_iconst d70_0
theorem d70_1 : decode (mB 70) 1 = .ok (.istore_n 3, 1) := by decide +kernel
theorem u70_1 {d : Nat} {ls : Lo} {st : List Va} {σ : Sg} {Q : Rs → Sg → Prop} {z : Int} : Wx d 70 1 ls (vi z :: st) σ Q ↔ Wx d 70 2 (lset ls 3 (vi z)) st σ Q := u_istore_n d70_1 (by decide)
theorem d70_2 : decode (mB 70) 2 = .ok (.iload_n 3, 1) := by decide +kernel
theorem u70_2 {d : Nat} {ls : Lo} {st : List Va} {σ : Sg} {Q : Rs → Sg → Prop} : Wx d 70 2 ls st σ Q ↔ Li (lget ls 3) (fun z => Wx d 70 3 ls (vi z :: st) σ Q) := u_iload_n d70_2
theorem d70_3 : decode (mB 70) 3 = .ok (.aload_n 1, 1) := by decide +kernel
theorem u70_3 {d : Nat} {ls : Lo} {st : List Va} {σ : Sg} {Q : Rs → Sg → Prop} : Wx d 70 3 ls st σ Q ↔ Lr (lget ls 1) (fun z => Wx d 70 4 ls (.inr (.inl z) :: st) σ Q) := u_aload_n d70_3
theorem d70_4 : decode (mB 70) 4 = .ok (.getfield 94, 3) := by decide +kernel
theorem u70_4 {d : Nat} {ls : Lo} {st : List Va} {σ : Sg} {Q : Rs → Sg → Prop} {g j : Nat} : Wx d 70 4 ls (vr g j :: st) σ Q ↔ isO g j 3 ∧ Wx d 70 7 ls (fvv σ g j 10 :: st) σ Q := u_get (w := (3, 10)) d70_4 rfl
theorem d70_7 : decode (mB 70) 7 = .ok (.if_icmp .ge 47, 3) := by decide +kernel
theorem u70_7 {d : Nat} {ls : Lo} {st : List Va} {σ : Sg} {Q : Rs → Sg → Prop} {a b : Int} (h : -2147483648 ≤ a ∧ a ≤ 2147483647) (h2 : -2147483648 ≤ b ∧ b ≤ 2147483647) : Wx d 70 7 ls (vi b :: vi a :: st) σ Q ↔ if b ≤ a then Wx d 70 54 ls st σ Q else Wx d 70 10 ls st σ Q := u_icge d70_7 (by decide) h h2
theorem d70_10 : decode (mB 70) 10 = .ok (.iload_n 3, 1) := by decide +kernel
theorem u70_10 {d : Nat} {ls : Lo} {st : List Va} {σ : Sg} {Q : Rs → Sg → Prop} : Wx d 70 10 ls st σ Q ↔ Li (lget ls 3) (fun z => Wx d 70 11 ls (vi z :: st) σ Q) := u_iload_n d70_10
theorem d70_11 : decode (mB 70) 11 = .ok (.aload_n 1, 1) := by decide +kernel
theorem u70_11 {d : Nat} {ls : Lo} {st : List Va} {σ : Sg} {Q : Rs → Sg → Prop} : Wx d 70 11 ls st σ Q ↔ Lr (lget ls 1) (fun z => Wx d 70 12 ls (.inr (.inl z) :: st) σ Q) := u_aload_n d70_11
theorem d70_12 : decode (mB 70) 12 = .ok (.getfield 97, 3) := by decide +kernel
theorem u70_12 {d : Nat} {ls : Lo} {st : List Va} {σ : Sg} {Q : Rs → Sg → Prop} {g j : Nat} : Wx d 70 12 ls (vr g j :: st) σ Q ↔ isO g j 3 ∧ Wx d 70 15 ls (fvv σ g j 11 :: st) σ Q := u_get (w := (3, 11)) d70_12 rfl
theorem d70_15 : decode (mB 70) 15 = .ok (.if_icmp .eq 20, 3) := by decide +kernel
theorem u70_15 {d : Nat} {ls : Lo} {st : List Va} {σ : Sg} {Q : Rs → Sg → Prop} {a b : Int} (h : -2147483648 ≤ a ∧ a ≤ 2147483647) (h2 : -2147483648 ≤ b ∧ b ≤ 2147483647) : Wx d 70 15 ls (vi b :: vi a :: st) σ Q ↔ if a = b then Wx d 70 35 ls st σ Q else Wx d 70 18 ls st σ Q := u_iceq d70_15 (by decide) h h2
theorem d70_18 : decode (mB 70) 18 = .ok (.aload_n 1, 1) := by decide +kernel
theorem u70_18 {d : Nat} {ls : Lo} {st : List Va} {σ : Sg} {Q : Rs → Sg → Prop} : Wx d 70 18 ls st σ Q ↔ Lr (lget ls 1) (fun z => Wx d 70 19 ls (.inr (.inl z) :: st) σ Q) := u_aload_n d70_18
theorem d70_19 : decode (mB 70) 19 = .ok (.aload_n 1, 1) := by decide +kernel
theorem u70_19 {d : Nat} {ls : Lo} {st : List Va} {σ : Sg} {Q : Rs → Sg → Prop} : Wx d 70 19 ls st σ Q ↔ Lr (lget ls 1) (fun z => Wx d 70 20 ls (.inr (.inl z) :: st) σ Q) := u_aload_n d70_19
theorem d70_20 : decode (mB 70) 20 = .ok (.getfield 100, 3) := by decide +kernel
theorem u70_20 {d : Nat} {ls : Lo} {st : List Va} {σ : Sg} {Q : Rs → Sg → Prop} {g j : Nat} : Wx d 70 20 ls (vr g j :: st) σ Q ↔ isO g j 3 ∧ Wx d 70 23 ls (fvv σ g j 3 :: st) σ Q := u_get (w := (3, 3)) d70_20 rfl
theorem d70_23 : decode (mB 70) 23 = .ok (.iload_n 3, 1) := by decide +kernel
theorem u70_23 {d : Nat} {ls : Lo} {st : List Va} {σ : Sg} {Q : Rs → Sg → Prop} : Wx d 70 23 ls st σ Q ↔ Li (lget ls 3) (fun z => Wx d 70 24 ls (vi z :: st) σ Q) := u_iload_n d70_23
theorem d70_24 : decode (mB 70) 24 = .ok (.iaload, 1) := by decide +kernel
theorem u70_24 {d : Nat} {ls : Lo} {st : List Va} {σ : Sg} {Q : Rs → Sg → Prop} {z : Int} {g j : Nat} : Wx d 70 24 ls (vi z :: vr g j :: st) σ Q ↔ On (ial σ g j z) (fun x => Wx d 70 25 ls (vi x :: st) σ Q) := u_iald d70_24
theorem d70_25 : decode (mB 70) 25 = .ok (.invokestatic 103, 3) := by decide +kernel
theorem u70_25 {d : Nat} {ls : Lo} {st : List Va} {σ : Sg} {Q : Rs → Sg → Prop} {a1 a2 : Va} : Wx (d + 1) 70 25 ls (a2 :: a1 :: st) σ Q ↔ (st.length ≤ 4 ∧ nlg [a2, a1] = true) ∧ Wm d 71 [a1, a2] σ (Kc (d + 1) 70 28 ls st Q) := u_sta2 d70_25 rfl rfl rfl (by decide) (by decide) (by decide)
theorem d70_28 : decode (mB 70) 28 = .ok (.ifCond .ne 7, 3) := by decide +kernel
theorem u70_28 {d : Nat} {ls : Lo} {st : List Va} {σ : Sg} {Q : Rs → Sg → Prop} {a : Int} (h : -2147483648 ≤ a ∧ a ≤ 2147483647) : Wx d 70 28 ls (vi a :: st) σ Q ↔ if ¬ a = 0 then Wx d 70 35 ls st σ Q else Wx d 70 31 ls st σ Q := u_ifne d70_28 (by decide) h
theorem d70_31 : decode (mB 70) 31 = .ok (.iconst 1, 1) := by decide +kernel
theorem u70_31 {d : Nat} {ls : Lo} {st : List Va} {σ : Sg} {Q : Rs → Sg → Prop} : Wx d 70 31 ls st σ Q ↔ Wx d 70 32 ls (vi 1 :: st) σ Q := u_iconst d70_31
theorem d70_32 : decode (mB 70) 32 = .ok (.goto 4, 3) := by decide +kernel
theorem u70_32 {d : Nat} {ls : Lo} {st : List Va} {σ : Sg} {Q : Rs → Sg → Prop} : Wx d 70 32 ls st σ Q ↔ Wx d 70 36 ls st σ Q := u_goto d70_32 (by decide)
theorem d70_35 : decode (mB 70) 35 = .ok (.iconst 0, 1) := by decide +kernel
theorem u70_35 {d : Nat} {ls : Lo} {st : List Va} {σ : Sg} {Q : Rs → Sg → Prop} : Wx d 70 35 ls st σ Q ↔ Wx d 70 36 ls (vi 0 :: st) σ Q := u_iconst d70_35
theorem d70_36 : decode (mB 70) 36 = .ok (.istore 4, 2) := by decide +kernel
theorem u70_36 {d : Nat} {ls : Lo} {st : List Va} {σ : Sg} {Q : Rs → Sg → Prop} {z : Int} : Wx d 70 36 ls (vi z :: st) σ Q ↔ Wx d 70 38 (lset ls 4 (vi z)) st σ Q := u_istore d70_36 (by decide)
theorem d70_38 : decode (mB 70) 38 = .ok (.aload_n 0, 1) := by decide +kernel
theorem u70_38 {d : Nat} {ls : Lo} {st : List Va} {σ : Sg} {Q : Rs → Sg → Prop} : Wx d 70 38 ls st σ Q ↔ Lr (lget ls 0) (fun z => Wx d 70 39 ls (.inr (.inl z) :: st) σ Q) := u_aload_n d70_38
theorem d70_39 : decode (mB 70) 39 = .ok (.iload 4, 2) := by decide +kernel
theorem u70_39 {d : Nat} {ls : Lo} {st : List Va} {σ : Sg} {Q : Rs → Sg → Prop} : Wx d 70 39 ls st σ Q ↔ Li (lget ls 4) (fun z => Wx d 70 41 ls (vi z :: st) σ Q) := u_iload d70_39
theorem d70_41 : decode (mB 70) 41 = .ok (.iload_n 2, 1) := by decide +kernel
theorem u70_41 {d : Nat} {ls : Lo} {st : List Va} {σ : Sg} {Q : Rs → Sg → Prop} : Wx d 70 41 ls st σ Q ↔ Li (lget ls 2) (fun z => Wx d 70 42 ls (vi z :: st) σ Q) := u_iload_n d70_41
theorem d70_42 : decode (mB 70) 42 = .ok (.bipush 8, 2) := by decide +kernel
theorem u70_42 {d : Nat} {ls : Lo} {st : List Va} {σ : Sg} {Q : Rs → Sg → Prop} : Wx d 70 42 ls st σ Q ↔ Wx d 70 44 ls (vi 8 :: st) σ Q := u_bipush d70_42 (by decide)
theorem d70_44 : decode (mB 70) 44 = .ok (.iload_n 3, 1) := by decide +kernel
theorem u70_44 {d : Nat} {ls : Lo} {st : List Va} {σ : Sg} {Q : Rs → Sg → Prop} : Wx d 70 44 ls st σ Q ↔ Li (lget ls 3) (fun z => Wx d 70 45 ls (vi z :: st) σ Q) := u_iload_n d70_44
theorem d70_45 : decode (mB 70) 45 = .ok (.invokevirtual 61, 3) := by decide +kernel
theorem u70_45 {d : Nat} {ls : Lo} {st : List Va} {σ : Sg} {Q : Rs → Sg → Prop} {g j : Nat} {a1 a2 a3 a4 : Va} : Wx (d + 1) 70 45 ls (a4 :: a3 :: a2 :: a1 :: vr g j :: st) σ Q ↔ (isO g j 6 ∧ st.length ≤ 4 ∧ nlg [a4, a3, a2, a1] = true) ∧ Wm d 73 [vr g j, a1, a2, a3, a4] σ (Kc (d + 1) 70 48 ls st Q) := u_inv4 d70_45 rfl rfl rfl
theorem d70_48 : decode (mB 70) 48 = .ok (.iinc 3 1, 3) := by decide +kernel
theorem u70_48 {d : Nat} {ls : Lo} {st : List Va} {σ : Sg} {Q : Rs → Sg → Prop} : Wx d 70 48 ls st σ Q ↔ Li (lget ls 3) (fun z => Wx d 70 51 (lset ls 3 (vi (z + 1))) st σ Q) := u_iinc d70_48 (by decide)
theorem d70_51 : decode (mB 70) 51 = .ok (.goto (-49), 3) := by decide +kernel
theorem u70_51 {d : Nat} {ls : Lo} {st : List Va} {σ : Sg} {Q : Rs → Sg → Prop} : Wx d 70 51 ls st σ Q ↔ Wx d 70 2 ls st σ Q := u_goto d70_51 (by decide)
theorem d70_54 : decode (mB 70) 54 = .ok (.return_, 1) := by decide +kernel
theorem u70_54 {d : Nat} {ls : Lo} {σ : Sg} {Q : Rs → Sg → Prop} : Wx d 70 54 ls [] σ Q ↔ Q (.inl none) σ := u_vret d70_54 rfl
/-! 71: FiguredBass$Examination.isSung(LFiguredBass$Chord;I)Z -/
theorem d71_0 : decode (mB 71) 0 = .ok (.iconst 0, 1) := by decide +kernel
theorem u71_0 {d : Nat} {ls : Lo} {st : List Va} {σ : Sg} {Q : Rs → Sg → Prop} : Wx d 71 0 ls st σ Q ↔ Wx d 71 1 ls (vi 0 :: st) σ Q := u_iconst d71_0
theorem d71_1 : decode (mB 71) 1 = .ok (.istore_n 2, 1) := by decide +kernel
theorem u71_1 {d : Nat} {ls : Lo} {st : List Va} {σ : Sg} {Q : Rs → Sg → Prop} {z : Int} : Wx d 71 1 ls (vi z :: st) σ Q ↔ Wx d 71 2 (lset ls 2 (vi z)) st σ Q := u_istore_n d71_1 (by decide)
theorem d71_2 : decode (mB 71) 2 = .ok (.iload_n 2, 1) := by decide +kernel
theorem u71_2 {d : Nat} {ls : Lo} {st : List Va} {σ : Sg} {Q : Rs → Sg → Prop} : Wx d 71 2 ls st σ Q ↔ Li (lget ls 2) (fun z => Wx d 71 3 ls (vi z :: st) σ Q) := u_iload_n d71_2
theorem d71_3 : decode (mB 71) 3 = .ok (.iconst 4, 1) := by decide +kernel
theorem u71_3 {d : Nat} {ls : Lo} {st : List Va} {σ : Sg} {Q : Rs → Sg → Prop} : Wx d 71 3 ls st σ Q ↔ Wx d 71 4 ls (vi 4 :: st) σ Q := u_iconst d71_3
theorem d71_4 : decode (mB 71) 4 = .ok (.if_icmp .ge 24, 3) := by decide +kernel
theorem u71_4 {d : Nat} {ls : Lo} {st : List Va} {σ : Sg} {Q : Rs → Sg → Prop} {a b : Int} (h : -2147483648 ≤ a ∧ a ≤ 2147483647) (h2 : -2147483648 ≤ b ∧ b ≤ 2147483647) : Wx d 71 4 ls (vi b :: vi a :: st) σ Q ↔ if b ≤ a then Wx d 71 28 ls st σ Q else Wx d 71 7 ls st σ Q := u_icge d71_4 (by decide) h h2
theorem d71_7 : decode (mB 71) 7 = .ok (.aload_n 0, 1) := by decide +kernel
theorem u71_7 {d : Nat} {ls : Lo} {st : List Va} {σ : Sg} {Q : Rs → Sg → Prop} : Wx d 71 7 ls st σ Q ↔ Lr (lget ls 0) (fun z => Wx d 71 8 ls (.inr (.inl z) :: st) σ Q) := u_aload_n d71_7
theorem d71_8 : decode (mB 71) 8 = .ok (.iconst (-1), 1) := by decide +kernel
theorem u71_8 {d : Nat} {ls : Lo} {st : List Va} {σ : Sg} {Q : Rs → Sg → Prop} : Wx d 71 8 ls st σ Q ↔ Wx d 71 9 ls (vi (-1) :: st) σ Q := u_iconst d71_8
theorem d71_9 : decode (mB 71) 9 = .ok (.iload_n 2, 1) := by decide +kernel
theorem u71_9 {d : Nat} {ls : Lo} {st : List Va} {σ : Sg} {Q : Rs → Sg → Prop} : Wx d 71 9 ls st σ Q ↔ Li (lget ls 2) (fun z => Wx d 71 10 ls (vi z :: st) σ Q) := u_iload_n d71_9
theorem d71_10 : decode (mB 71) 10 = .ok (.invokevirtual 51, 3) := by decide +kernel
theorem u71_10 {d : Nat} {ls : Lo} {st : List Va} {σ : Sg} {Q : Rs → Sg → Prop} {g j : Nat} {a1 a2 : Va} : Wx (d + 1) 71 10 ls (a2 :: a1 :: vr g j :: st) σ Q ↔ (isO g j 3 ∧ st.length ≤ 4 ∧ nlg [a2, a1] = true) ∧ Wm d 43 [vr g j, a1, a2] σ (Kc (d + 1) 71 13 ls st Q) := u_inv2 d71_10 rfl rfl rfl
theorem d71_13 : decode (mB 71) 13 = .ok (.bipush 12, 2) := by decide +kernel
theorem u71_13 {d : Nat} {ls : Lo} {st : List Va} {σ : Sg} {Q : Rs → Sg → Prop} : Wx d 71 13 ls st σ Q ↔ Wx d 71 15 ls (vi 12 :: st) σ Q := u_bipush d71_13 (by decide)
theorem d71_15 : decode (mB 71) 15 = .ok (.irem, 1) := by decide +kernel
theorem u71_15 {d : Nat} {ls : Lo} {st : List Va} {σ : Sg} {Q : Rs → Sg → Prop} {a b : Int} (h : (-2147483648 ≤ a ∧ a ≤ 2147483647) ∧ 0 < b ∧ b ≤ 2147483647) : Wx d 71 15 ls (vi b :: vi a :: st) σ Q ↔ Wx d 71 16 ls (vi (Int.tmod a b) :: st) σ Q := u_irem d71_15 h
theorem d71_16 : decode (mB 71) 16 = .ok (.iload_n 1, 1) := by decide +kernel
theorem u71_16 {d : Nat} {ls : Lo} {st : List Va} {σ : Sg} {Q : Rs → Sg → Prop} : Wx d 71 16 ls st σ Q ↔ Li (lget ls 1) (fun z => Wx d 71 17 ls (vi z :: st) σ Q) := u_iload_n d71_16
theorem d71_17 : decode (mB 71) 17 = .ok (.if_icmp .ne 5, 3) := by decide +kernel
theorem u71_17 {d : Nat} {ls : Lo} {st : List Va} {σ : Sg} {Q : Rs → Sg → Prop} {a b : Int} (h : -2147483648 ≤ a ∧ a ≤ 2147483647) (h2 : -2147483648 ≤ b ∧ b ≤ 2147483647) : Wx d 71 17 ls (vi b :: vi a :: st) σ Q ↔ if ¬ a = b then Wx d 71 22 ls st σ Q else Wx d 71 20 ls st σ Q := u_icne d71_17 (by decide) h h2
theorem d71_20 : decode (mB 71) 20 = .ok (.iconst 1, 1) := by decide +kernel
theorem u71_20 {d : Nat} {ls : Lo} {st : List Va} {σ : Sg} {Q : Rs → Sg → Prop} : Wx d 71 20 ls st σ Q ↔ Wx d 71 21 ls (vi 1 :: st) σ Q := u_iconst d71_20
theorem d71_21 : decode (mB 71) 21 = .ok (.ireturn, 1) := by decide +kernel
theorem u71_21 {d : Nat} {ls : Lo} {σ : Sg} {Q : Rs → Sg → Prop} {z : Int} (h : z = 0 ∨ z = 1) : Wx d 71 21 ls [vi z] σ Q ↔ Q (.inl (some (vi z))) σ := u_zret d71_21 rfl h
theorem d71_22 : decode (mB 71) 22 = .ok (.iinc 2 1, 3) := by decide +kernel
theorem u71_22 {d : Nat} {ls : Lo} {st : List Va} {σ : Sg} {Q : Rs → Sg → Prop} : Wx d 71 22 ls st σ Q ↔ Li (lget ls 2) (fun z => Wx d 71 25 (lset ls 2 (vi (z + 1))) st σ Q) := u_iinc d71_22 (by decide)
theorem d71_25 : decode (mB 71) 25 = .ok (.goto (-23), 3) := by decide +kernel
theorem u71_25 {d : Nat} {ls : Lo} {st : List Va} {σ : Sg} {Q : Rs → Sg → Prop} : Wx d 71 25 ls st σ Q ↔ Wx d 71 2 ls st σ Q := u_goto d71_25 (by decide)
theorem d71_28 : decode (mB 71) 28 = .ok (.iconst 0, 1) := by decide +kernel
theorem u71_28 {d : Nat} {ls : Lo} {st : List Va} {σ : Sg} {Q : Rs → Sg → Prop} : Wx d 71 28 ls st σ Q ↔ Wx d 71 29 ls (vi 0 :: st) σ Q := u_iconst d71_28
theorem d71_29 : decode (mB 71) 29 = .ok (.ireturn, 1) := by decide +kernel
theorem u71_29 {d : Nat} {ls : Lo} {σ : Sg} {Q : Rs → Sg → Prop} {z : Int} (h : z = 0 ∨ z = 1) : Wx d 71 29 ls [vi z] σ Q ↔ Q (.inl (some (vi z))) σ := u_zret d71_29 rfl h
/-! 72: FiguredBass$Examination.pair(II)I -/
theorem d72_0 : decode (mB 72) 0 = .ok (.iconst 4, 1) := by decide +kernel
theorem u72_0 {d : Nat} {ls : Lo} {st : List Va} {σ : Sg} {Q : Rs → Sg → Prop} : Wx d 72 0 ls st σ Q ↔ Wx d 72 1 ls (vi 4 :: st) σ Q := u_iconst d72_0
theorem d72_1 : decode (mB 72) 1 = .ok (.iload_n 0, 1) := by decide +kernel
theorem u72_1 {d : Nat} {ls : Lo} {st : List Va} {σ : Sg} {Q : Rs → Sg → Prop} : Wx d 72 1 ls st σ Q ↔ Li (lget ls 0) (fun z => Wx d 72 2 ls (vi z :: st) σ Q) := u_iload_n d72_1
theorem d72_2 : decode (mB 72) 2 = .ok (.imul, 1) := by decide +kernel
theorem u72_2 {d : Nat} {ls : Lo} {st : List Va} {σ : Sg} {Q : Rs → Sg → Prop} {a b : Int} : Wx d 72 2 ls (vi b :: vi a :: st) σ Q ↔ Wx d 72 3 ls (vi (a * b) :: st) σ Q := u_imul d72_2
theorem d72_3 : decode (mB 72) 3 = .ok (.iload_n 1, 1) := by decide +kernel
theorem u72_3 {d : Nat} {ls : Lo} {st : List Va} {σ : Sg} {Q : Rs → Sg → Prop} : Wx d 72 3 ls st σ Q ↔ Li (lget ls 1) (fun z => Wx d 72 4 ls (vi z :: st) σ Q) := u_iload_n d72_3
theorem d72_4 : decode (mB 72) 4 = .ok (.iadd, 1) := by decide +kernel
theorem u72_4 {d : Nat} {ls : Lo} {st : List Va} {σ : Sg} {Q : Rs → Sg → Prop} {a b : Int} : Wx d 72 4 ls (vi b :: vi a :: st) σ Q ↔ Wx d 72 5 ls (vi (a + b) :: st) σ Q := u_iadd d72_4
theorem d72_5 : decode (mB 72) 5 = .ok (.ireturn, 1) := by decide +kernel
theorem u72_5 {d : Nat} {ls : Lo} {σ : Sg} {Q : Rs → Sg → Prop} {z : Int} : Wx d 72 5 ls [vi z] σ Q ↔ Q (.inl (some (vi z))) σ := u_iret d72_5 rfl
/-! 73: FiguredBass$Examination.addIf(ZIII)V -/
theorem d73_0 : decode (mB 73) 0 = .ok (.iload_n 1, 1) := by decide +kernel
theorem u73_0 {d : Nat} {ls : Lo} {st : List Va} {σ : Sg} {Q : Rs → Sg → Prop} : Wx d 73 0 ls st σ Q ↔ Li (lget ls 1) (fun z => Wx d 73 1 ls (vi z :: st) σ Q) := u_iload_n d73_0
theorem d73_1 : decode (mB 73) 1 = .ok (.ifCond .eq 54, 3) := by decide +kernel
theorem u73_1 {d : Nat} {ls : Lo} {st : List Va} {σ : Sg} {Q : Rs → Sg → Prop} {a : Int} (h : -2147483648 ≤ a ∧ a ≤ 2147483647) : Wx d 73 1 ls (vi a :: st) σ Q ↔ if a = 0 then Wx d 73 55 ls st σ Q else Wx d 73 4 ls st σ Q := u_ifeq d73_1 (by decide) h
theorem d73_4 : decode (mB 73) 4 = .ok (.aload_n 0, 1) := by decide +kernel
theorem u73_4 {d : Nat} {ls : Lo} {st : List Va} {σ : Sg} {Q : Rs → Sg → Prop} : Wx d 73 4 ls st σ Q ↔ Lr (lget ls 0) (fun z => Wx d 73 5 ls (.inr (.inl z) :: st) σ Q) := u_aload_n d73_4
theorem d73_5 : decode (mB 73) 5 = .ok (.getfield 28, 3) := by decide +kernel
theorem u73_5 {d : Nat} {ls : Lo} {st : List Va} {σ : Sg} {Q : Rs → Sg → Prop} {g j : Nat} : Wx d 73 5 ls (vr g j :: st) σ Q ↔ isO g j 6 ∧ Wx d 73 8 ls (fvv σ g j 4 :: st) σ Q := u_get (w := (6, 4)) d73_5 rfl
theorem d73_8 : decode (mB 73) 8 = .ok (.sipush 240, 3) := by decide +kernel
theorem u73_8 {d : Nat} {ls : Lo} {st : List Va} {σ : Sg} {Q : Rs → Sg → Prop} : Wx d 73 8 ls st σ Q ↔ Wx d 73 11 ls (vi 240 :: st) σ Q := u_sipush d73_8 (by decide)
theorem d73_11 : decode (mB 73) 11 = .ok (.if_icmp .ge 44, 3) := by decide +kernel
theorem u73_11 {d : Nat} {ls : Lo} {st : List Va} {σ : Sg} {Q : Rs → Sg → Prop} {a b : Int} (h : -2147483648 ≤ a ∧ a ≤ 2147483647) (h2 : -2147483648 ≤ b ∧ b ≤ 2147483647) : Wx d 73 11 ls (vi b :: vi a :: st) σ Q ↔ if b ≤ a then Wx d 73 55 ls st σ Q else Wx d 73 14 ls st σ Q := u_icge d73_11 (by decide) h h2
theorem d73_14 : decode (mB 73) 14 = .ok (.aload_n 0, 1) := by decide +kernel
theorem u73_14 {d : Nat} {ls : Lo} {st : List Va} {σ : Sg} {Q : Rs → Sg → Prop} : Wx d 73 14 ls st σ Q ↔ Lr (lget ls 0) (fun z => Wx d 73 15 ls (.inr (.inl z) :: st) σ Q) := u_aload_n d73_14
theorem d73_15 : decode (mB 73) 15 = .ok (.getfield 18, 3) := by decide +kernel
theorem u73_15 {d : Nat} {ls : Lo} {st : List Va} {σ : Sg} {Q : Rs → Sg → Prop} {g j : Nat} : Wx d 73 15 ls (vr g j :: st) σ Q ↔ isO g j 6 ∧ Wx d 73 18 ls (fvv σ g j 1 :: st) σ Q := u_get (w := (6, 1)) d73_15 rfl
theorem d73_18 : decode (mB 73) 18 = .ok (.aload_n 0, 1) := by decide +kernel
theorem u73_18 {d : Nat} {ls : Lo} {st : List Va} {σ : Sg} {Q : Rs → Sg → Prop} : Wx d 73 18 ls st σ Q ↔ Lr (lget ls 0) (fun z => Wx d 73 19 ls (.inr (.inl z) :: st) σ Q) := u_aload_n d73_18
theorem d73_19 : decode (mB 73) 19 = .ok (.getfield 28, 3) := by decide +kernel
theorem u73_19 {d : Nat} {ls : Lo} {st : List Va} {σ : Sg} {Q : Rs → Sg → Prop} {g j : Nat} : Wx d 73 19 ls (vr g j :: st) σ Q ↔ isO g j 6 ∧ Wx d 73 22 ls (fvv σ g j 4 :: st) σ Q := u_get (w := (6, 4)) d73_19 rfl
theorem d73_22 : decode (mB 73) 22 = .ok (.iload_n 2, 1) := by decide +kernel
theorem u73_22 {d : Nat} {ls : Lo} {st : List Va} {σ : Sg} {Q : Rs → Sg → Prop} : Wx d 73 22 ls st σ Q ↔ Li (lget ls 2) (fun z => Wx d 73 23 ls (vi z :: st) σ Q) := u_iload_n d73_22
theorem d73_23 : decode (mB 73) 23 = .ok (.iastore, 1) := by decide +kernel
theorem u73_23 {d : Nat} {ls : Lo} {st : List Va} {σ : Sg} {Q : Rs → Sg → Prop} {x z : Int} {g j : Nat} : Wx d 73 23 ls (vi x :: vi z :: vr g j :: st) σ Q ↔ isA g j 0 z ∧ Wx d 73 24 ls st (up σ g j z.toNat x) Q := u_iast d73_23
theorem d73_24 : decode (mB 73) 24 = .ok (.aload_n 0, 1) := by decide +kernel
theorem u73_24 {d : Nat} {ls : Lo} {st : List Va} {σ : Sg} {Q : Rs → Sg → Prop} : Wx d 73 24 ls st σ Q ↔ Lr (lget ls 0) (fun z => Wx d 73 25 ls (.inr (.inl z) :: st) σ Q) := u_aload_n d73_24
theorem d73_25 : decode (mB 73) 25 = .ok (.getfield 22, 3) := by decide +kernel
theorem u73_25 {d : Nat} {ls : Lo} {st : List Va} {σ : Sg} {Q : Rs → Sg → Prop} {g j : Nat} : Wx d 73 25 ls (vr g j :: st) σ Q ↔ isO g j 6 ∧ Wx d 73 28 ls (fvv σ g j 2 :: st) σ Q := u_get (w := (6, 2)) d73_25 rfl
theorem d73_28 : decode (mB 73) 28 = .ok (.aload_n 0, 1) := by decide +kernel
theorem u73_28 {d : Nat} {ls : Lo} {st : List Va} {σ : Sg} {Q : Rs → Sg → Prop} : Wx d 73 28 ls st σ Q ↔ Lr (lget ls 0) (fun z => Wx d 73 29 ls (.inr (.inl z) :: st) σ Q) := u_aload_n d73_28
theorem d73_29 : decode (mB 73) 29 = .ok (.getfield 28, 3) := by decide +kernel
theorem u73_29 {d : Nat} {ls : Lo} {st : List Va} {σ : Sg} {Q : Rs → Sg → Prop} {g j : Nat} : Wx d 73 29 ls (vr g j :: st) σ Q ↔ isO g j 6 ∧ Wx d 73 32 ls (fvv σ g j 4 :: st) σ Q := u_get (w := (6, 4)) d73_29 rfl
theorem d73_32 : decode (mB 73) 32 = .ok (.iload_n 3, 1) := by decide +kernel
theorem u73_32 {d : Nat} {ls : Lo} {st : List Va} {σ : Sg} {Q : Rs → Sg → Prop} : Wx d 73 32 ls st σ Q ↔ Li (lget ls 3) (fun z => Wx d 73 33 ls (vi z :: st) σ Q) := u_iload_n d73_32
theorem d73_33 : decode (mB 73) 33 = .ok (.iastore, 1) := by decide +kernel
theorem u73_33 {d : Nat} {ls : Lo} {st : List Va} {σ : Sg} {Q : Rs → Sg → Prop} {x z : Int} {g j : Nat} : Wx d 73 33 ls (vi x :: vi z :: vr g j :: st) σ Q ↔ isA g j 0 z ∧ Wx d 73 34 ls st (up σ g j z.toNat x) Q := u_iast d73_33
theorem d73_34 : decode (mB 73) 34 = .ok (.aload_n 0, 1) := by decide +kernel
theorem u73_34 {d : Nat} {ls : Lo} {st : List Va} {σ : Sg} {Q : Rs → Sg → Prop} : Wx d 73 34 ls st σ Q ↔ Lr (lget ls 0) (fun z => Wx d 73 35 ls (.inr (.inl z) :: st) σ Q) := u_aload_n d73_34
theorem d73_35 : decode (mB 73) 35 = .ok (.getfield 25, 3) := by decide +kernel
theorem u73_35 {d : Nat} {ls : Lo} {st : List Va} {σ : Sg} {Q : Rs → Sg → Prop} {g j : Nat} : Wx d 73 35 ls (vr g j :: st) σ Q ↔ isO g j 6 ∧ Wx d 73 38 ls (fvv σ g j 3 :: st) σ Q := u_get (w := (6, 3)) d73_35 rfl
theorem d73_38 : decode (mB 73) 38 = .ok (.aload_n 0, 1) := by decide +kernel
theorem u73_38 {d : Nat} {ls : Lo} {st : List Va} {σ : Sg} {Q : Rs → Sg → Prop} : Wx d 73 38 ls st σ Q ↔ Lr (lget ls 0) (fun z => Wx d 73 39 ls (.inr (.inl z) :: st) σ Q) := u_aload_n d73_38
theorem d73_39 : decode (mB 73) 39 = .ok (.getfield 28, 3) := by decide +kernel
theorem u73_39 {d : Nat} {ls : Lo} {st : List Va} {σ : Sg} {Q : Rs → Sg → Prop} {g j : Nat} : Wx d 73 39 ls (vr g j :: st) σ Q ↔ isO g j 6 ∧ Wx d 73 42 ls (fvv σ g j 4 :: st) σ Q := u_get (w := (6, 4)) d73_39 rfl
theorem d73_42 : decode (mB 73) 42 = .ok (.iload 4, 2) := by decide +kernel
theorem u73_42 {d : Nat} {ls : Lo} {st : List Va} {σ : Sg} {Q : Rs → Sg → Prop} : Wx d 73 42 ls st σ Q ↔ Li (lget ls 4) (fun z => Wx d 73 44 ls (vi z :: st) σ Q) := u_iload d73_42
theorem d73_44 : decode (mB 73) 44 = .ok (.iastore, 1) := by decide +kernel
theorem u73_44 {d : Nat} {ls : Lo} {st : List Va} {σ : Sg} {Q : Rs → Sg → Prop} {x z : Int} {g j : Nat} : Wx d 73 44 ls (vi x :: vi z :: vr g j :: st) σ Q ↔ isA g j 0 z ∧ Wx d 73 45 ls st (up σ g j z.toNat x) Q := u_iast d73_44
theorem d73_45 : decode (mB 73) 45 = .ok (.aload_n 0, 1) := by decide +kernel
theorem u73_45 {d : Nat} {ls : Lo} {st : List Va} {σ : Sg} {Q : Rs → Sg → Prop} : Wx d 73 45 ls st σ Q ↔ Lr (lget ls 0) (fun z => Wx d 73 46 ls (.inr (.inl z) :: st) σ Q) := u_aload_n d73_45
theorem d73_46 : decode (mB 73) 46 = .ok (.dup, 1) := by decide +kernel
theorem u73_46i {d : Nat} {ls : Lo} {st : List Va} {σ : Sg} {Q : Rs → Sg → Prop} {a : Int} : Wx d 73 46 ls (vi a :: st) σ Q ↔ Wx d 73 47 ls (vi a :: vi a :: st) σ Q := u_dupi d73_46
theorem u73_46r {d : Nat} {ls : Lo} {st : List Va} {σ : Sg} {Q : Rs → Sg → Prop} {g j : Nat} : Wx d 73 46 ls (vr g j :: st) σ Q ↔ Wx d 73 47 ls (vr g j :: vr g j :: st) σ Q := u_dupr d73_46
theorem d73_47 : decode (mB 73) 47 = .ok (.getfield 28, 3) := by decide +kernel
theorem u73_47 {d : Nat} {ls : Lo} {st : List Va} {σ : Sg} {Q : Rs → Sg → Prop} {g j : Nat} : Wx d 73 47 ls (vr g j :: st) σ Q ↔ isO g j 6 ∧ Wx d 73 50 ls (fvv σ g j 4 :: st) σ Q := u_get (w := (6, 4)) d73_47 rfl
theorem d73_50 : decode (mB 73) 50 = .ok (.iconst 1, 1) := by decide +kernel
theorem u73_50 {d : Nat} {ls : Lo} {st : List Va} {σ : Sg} {Q : Rs → Sg → Prop} : Wx d 73 50 ls st σ Q ↔ Wx d 73 51 ls (vi 1 :: st) σ Q := u_iconst d73_50
theorem d73_51 : decode (mB 73) 51 = .ok (.iadd, 1) := by decide +kernel
theorem u73_51 {d : Nat} {ls : Lo} {st : List Va} {σ : Sg} {Q : Rs → Sg → Prop} {a b : Int} : Wx d 73 51 ls (vi b :: vi a :: st) σ Q ↔ Wx d 73 52 ls (vi (a + b) :: st) σ Q := u_iadd d73_51
theorem d73_52 : decode (mB 73) 52 = .ok (.putfield 28, 3) := by decide +kernel
theorem u73_52 {d : Nat} {ls : Lo} {st : List Va} {σ : Sg} {Q : Rs → Sg → Prop} {z : Int} {g j : Nat} : Wx d 73 52 ls (vi z :: vr g j :: st) σ Q ↔ (isO g j 6 ∧ rf g j 4 = none) ∧ Wx d 73 55 ls st (up σ g j 4 z) Q := u_put (w := (6, 4)) d73_52 rfl rfl rfl
theorem d73_55 : decode (mB 73) 55 = .ok (.return_, 1) := by decide +kernel
theorem u73_55 {d : Nat} {ls : Lo} {σ : Sg} {Q : Rs → Sg → Prop} : Wx d 73 55 ls [] σ Q ↔ Q (.inl none) σ := u_vret d73_55 rfl
