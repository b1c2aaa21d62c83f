/-! 116: FiguredBassModel.realise()I -/
theorem d116_0 : decode (mB 116) 0 = .ok (.aload_n 0, 1) := by decide +kernel
theorem u116_0 {d : Nat} {ls : Lo} {st : List Va} {σ : Sg} {Q : Rs → Sg → Prop} : Wx d 116 0 ls st σ Q ↔ Lr (lget ls 0) (fun z => Wx d 116 1 ls (.inr (.inl z) :: st) σ Q) := u_aload_n d116_0
theorem d116_1 : decode (mB 116) 1 = .ok (.aload_n 0, 1) := by decide +kernel
theorem u116_1 {d : Nat} {ls : Lo} {st : List Va} {σ : Sg} {Q : Rs → Sg → Prop} : Wx d 116 1 ls st σ Q ↔ Lr (lget ls 0) (fun z => Wx d 116 2 ls (.inr (.inl z) :: st) σ Q) := u_aload_n d116_1
theorem d116_2 : decode (mB 116) 2 = .ok (.iconst 1, 1) := by decide +kernel
theorem u116_2 {d : Nat} {ls : Lo} {st : List Va} {σ : Sg} {Q : Rs → Sg → Prop} : Wx d 116 2 ls st σ Q ↔ Wx d 116 3 ls (vi 1 :: st) σ Q := u_iconst d116_2
theorem d116_3 : decode (mB 116) 3 = .ok (.invokevirtual 233, 3) := by decide +kernel
theorem u116_3 {d : Nat} {ls : Lo} {st : List Va} {σ : Sg} {Q : Rs → Sg → Prop} {g j : Nat} {a1 : Va} : Wx (d + 1) 116 3 ls (a1 :: vr g j :: st) σ Q ↔ (isO g j 7 ∧ st.length ≤ 4 ∧ nlg [a1] = true) ∧ Wm d 99 [vr g j, a1] σ (Kc (d + 1) 116 6 ls st Q) := u_inv1 d116_3 rfl rfl rfl
theorem d116_6 : decode (mB 116) 6 = .ok (.ifCond .eq 7, 3) := by decide +kernel
theorem u116_6 {d : Nat} {ls : Lo} {st : List Va} {σ : Sg} {Q : Rs → Sg → Prop} {a : Int} (h : -2147483648 ≤ a ∧ a ≤ 2147483647) : Wx d 116 6 ls (vi a :: st) σ Q ↔ if a = 0 then Wx d 116 13 ls st σ Q else Wx d 116 9 ls st σ Q := u_ifeq d116_6 (by decide) h
theorem d116_9 : decode (mB 116) 9 = .ok (.iconst 0, 1) := by decide +kernel
theorem u116_9 {d : Nat} {ls : Lo} {st : List Va} {σ : Sg} {Q : Rs → Sg → Prop} : Wx d 116 9 ls st σ Q ↔ Wx d 116 10 ls (vi 0 :: st) σ Q := u_iconst d116_9
theorem d116_10 : decode (mB 116) 10 = .ok (.goto 4, 3) := by decide +kernel
theorem u116_10 {d : Nat} {ls : Lo} {st : List Va} {σ : Sg} {Q : Rs → Sg → Prop} : Wx d 116 10 ls st σ Q ↔ Wx d 116 14 ls st σ Q := u_goto d116_10 (by decide)
theorem d116_13 : decode (mB 116) 13 = .ok (.iconst 1, 1) := by decide +kernel
theorem u116_13 {d : Nat} {ls : Lo} {st : List Va} {σ : Sg} {Q : Rs → Sg → Prop} : Wx d 116 13 ls st σ Q ↔ Wx d 116 14 ls (vi 1 :: st) σ Q := u_iconst d116_13
theorem d116_14 : decode (mB 116) 14 = .ok (.putfield 108, 3) := by decide +kernel
theorem u116_14 {d : Nat} {ls : Lo} {st : List Va} {σ : Sg} {Q : Rs → Sg → Prop} {z : Int} {g j : Nat} : Wx d 116 14 ls (vi z :: vr g j :: st) σ Q ↔ (isO g j 7 ∧ rf g j 0 = none) ∧ Wx d 116 17 ls st (up σ g j 0 z) Q := u_put (w := (7, 0)) d116_14 rfl rfl rfl
theorem d116_17 : decode (mB 116) 17 = .ok (.aload_n 0, 1) := by decide +kernel
theorem u116_17 {d : Nat} {ls : Lo} {st : List Va} {σ : Sg} {Q : Rs → Sg → Prop} : Wx d 116 17 ls st σ Q ↔ Lr (lget ls 0) (fun z => Wx d 116 18 ls (.inr (.inl z) :: st) σ Q) := u_aload_n d116_17
theorem d116_18 : decode (mB 116) 18 = .ok (.getfield 108, 3) := by decide +kernel
theorem u116_18 {d : Nat} {ls : Lo} {st : List Va} {σ : Sg} {Q : Rs → Sg → Prop} {g j : Nat} : Wx d 116 18 ls (vr g j :: st) σ Q ↔ isO g j 7 ∧ Wx d 116 21 ls (fvv σ g j 0 :: st) σ Q := u_get (w := (7, 0)) d116_18 rfl
theorem d116_21 : decode (mB 116) 21 = .ok (.ifCond .eq 5, 3) := by decide +kernel
theorem u116_21 {d : Nat} {ls : Lo} {st : List Va} {σ : Sg} {Q : Rs → Sg → Prop} {a : Int} (h : -2147483648 ≤ a ∧ a ≤ 2147483647) : Wx d 116 21 ls (vi a :: st) σ Q ↔ if a = 0 then Wx d 116 26 ls st σ Q else Wx d 116 24 ls st σ Q := u_ifeq d116_21 (by decide) h
theorem d116_24 : decode (mB 116) 24 = .ok (.iconst 0, 1) := by decide +kernel
theorem u116_24 {d : Nat} {ls : Lo} {st : List Va} {σ : Sg} {Q : Rs → Sg → Prop} : Wx d 116 24 ls st σ Q ↔ Wx d 116 25 ls (vi 0 :: st) σ Q := u_iconst d116_24
theorem d116_25 : decode (mB 116) 25 = .ok (.ireturn, 1) := by decide +kernel
theorem u116_25 {d : Nat} {ls : Lo} {σ : Sg} {Q : Rs → Sg → Prop} {z : Int} : Wx d 116 25 ls [vi z] σ Q ↔ Q (.inl (some (vi z))) σ := u_iret d116_25 rfl
theorem d116_26 : decode (mB 116) 26 = .ok (.aload_n 0, 1) := by decide +kernel
theorem u116_26 {d : Nat} {ls : Lo} {st : List Va} {σ : Sg} {Q : Rs → Sg → Prop} : Wx d 116 26 ls st σ Q ↔ Lr (lget ls 0) (fun z => Wx d 116 27 ls (.inr (.inl z) :: st) σ Q) := u_aload_n d116_26
theorem d116_27 : decode (mB 116) 27 = .ok (.iconst 0, 1) := by decide +kernel
theorem u116_27 {d : Nat} {ls : Lo} {st : List Va} {σ : Sg} {Q : Rs → Sg → Prop} : Wx d 116 27 ls st σ Q ↔ Wx d 116 28 ls (vi 0 :: st) σ Q := u_iconst d116_27
theorem d116_28 : decode (mB 116) 28 = .ok (.putfield 129, 3) := by decide +kernel
theorem u116_28 {d : Nat} {ls : Lo} {st : List Va} {σ : Sg} {Q : Rs → Sg → Prop} {z : Int} {g j : Nat} : Wx d 116 28 ls (vi z :: vr g j :: st) σ Q ↔ (isO g j 7 ∧ rf g j 32 = none ∧ (z = 0 ∨ z = 1)) ∧ Wx d 116 31 ls st (up σ g j 32 z) Q := u_putz (w := (7, 32)) d116_28 rfl rfl rfl
theorem d116_31 : decode (mB 116) 31 = .ok (.aload_n 0, 1) := by decide +kernel
theorem u116_31 {d : Nat} {ls : Lo} {st : List Va} {σ : Sg} {Q : Rs → Sg → Prop} : Wx d 116 31 ls st σ Q ↔ Lr (lget ls 0) (fun z => Wx d 116 32 ls (.inr (.inl z) :: st) σ Q) := u_aload_n d116_31
theorem d116_32 : decode (mB 116) 32 = .ok (.getfield 22, 3) := by decide +kernel
theorem u116_32 {d : Nat} {ls : Lo} {st : List Va} {σ : Sg} {Q : Rs → Sg → Prop} {g j : Nat} : Wx d 116 32 ls (vr g j :: st) σ Q ↔ isO g j 7 ∧ Wx d 116 35 ls (fvv σ g j 7 :: st) σ Q := u_get (w := (7, 7)) d116_32 rfl
theorem d116_35 : decode (mB 116) 35 = .ok (.iconst 1, 1) := by decide +kernel
theorem u116_35 {d : Nat} {ls : Lo} {st : List Va} {σ : Sg} {Q : Rs → Sg → Prop} : Wx d 116 35 ls st σ Q ↔ Wx d 116 36 ls (vi 1 :: st) σ Q := u_iconst d116_35
theorem d116_36 : decode (mB 116) 36 = .ok (.isub, 1) := by decide +kernel
theorem u116_36 {d : Nat} {ls : Lo} {st : List Va} {σ : Sg} {Q : Rs → Sg → Prop} {a b : Int} : Wx d 116 36 ls (vi b :: vi a :: st) σ Q ↔ Wx d 116 37 ls (vi (a - b) :: st) σ Q := u_isub d116_36
theorem d116_37 : decode (mB 116) 37 = .ok (.istore_n 1, 1) := by decide +kernel
theorem u116_37 {d : Nat} {ls : Lo} {st : List Va} {σ : Sg} {Q : Rs → Sg → Prop} {z : Int} : Wx d 116 37 ls (vi z :: st) σ Q ↔ Wx d 116 38 (lset ls 1 (vi z)) st σ Q := u_istore_n d116_37 (by decide)
theorem d116_38 : decode (mB 116) 38 = .ok (.iload_n 1, 1) := by decide +kernel
theorem u116_38 {d : Nat} {ls : Lo} {st : List Va} {σ : Sg} {Q : Rs → Sg → Prop} : Wx d 116 38 ls st σ Q ↔ Li (lget ls 1) (fun z => Wx d 116 39 ls (vi z :: st) σ Q) := u_iload_n d116_38
theorem d116_39 : decode (mB 116) 39 = .ok (.ifCond .lt 14, 3) := by decide +kernel
theorem u116_39 {d : Nat} {ls : Lo} {st : List Va} {σ : Sg} {Q : Rs → Sg → Prop} {a : Int} (h : -2147483648 ≤ a ∧ a ≤ 2147483647) : Wx d 116 39 ls (vi a :: st) σ Q ↔ if a < 0 then Wx d 116 53 ls st σ Q else Wx d 116 42 ls st σ Q := u_iflt d116_39 (by decide) h
theorem d116_42 : decode (mB 116) 42 = .ok (.aload_n 0, 1) := by decide +kernel
theorem u116_42 {d : Nat} {ls : Lo} {st : List Va} {σ : Sg} {Q : Rs → Sg → Prop} : Wx d 116 42 ls st σ Q ↔ Lr (lget ls 0) (fun z => Wx d 116 43 ls (.inr (.inl z) :: st) σ Q) := u_aload_n d116_42
theorem d116_43 : decode (mB 116) 43 = .ok (.iload_n 1, 1) := by decide +kernel
theorem u116_43 {d : Nat} {ls : Lo} {st : List Va} {σ : Sg} {Q : Rs → Sg → Prop} : Wx d 116 43 ls st σ Q ↔ Li (lget ls 1) (fun z => Wx d 116 44 ls (vi z :: st) σ Q) := u_iload_n d116_43
theorem d116_44 : decode (mB 116) 44 = .ok (.invokevirtual 237, 3) := by decide +kernel
theorem u116_44 {d : Nat} {ls : Lo} {st : List Va} {σ : Sg} {Q : Rs → Sg → Prop} {g j : Nat} {a1 : Va} : Wx (d + 1) 116 44 ls (a1 :: vr g j :: st) σ Q ↔ (isO g j 7 ∧ st.length ≤ 4 ∧ nlg [a1] = true) ∧ Wm d 111 [vr g j, a1] σ (Kc (d + 1) 116 47 ls st Q) := u_inv1 d116_44 rfl rfl rfl
theorem d116_47 : decode (mB 116) 47 = .ok (.iinc 1 (-1), 3) := by decide +kernel
theorem u116_47 {d : Nat} {ls : Lo} {st : List Va} {σ : Sg} {Q : Rs → Sg → Prop} : Wx d 116 47 ls st σ Q ↔ Li (lget ls 1) (fun z => Wx d 116 50 (lset ls 1 (vi (z + (-1)))) st σ Q) := u_iinc d116_47 (by decide)
theorem d116_50 : decode (mB 116) 50 = .ok (.goto (-12), 3) := by decide +kernel
theorem u116_50 {d : Nat} {ls : Lo} {st : List Va} {σ : Sg} {Q : Rs → Sg → Prop} : Wx d 116 50 ls st σ Q ↔ Wx d 116 38 ls st σ Q := u_goto d116_50 (by decide)
theorem d116_53 : decode (mB 116) 53 = .ok (.iconst (-1), 1) := by decide +kernel
theorem u116_53 {d : Nat} {ls : Lo} {st : List Va} {σ : Sg} {Q : Rs → Sg → Prop} : Wx d 116 53 ls st σ Q ↔ Wx d 116 54 ls (vi (-1) :: st) σ Q := u_iconst d116_53
theorem d116_54 : decode (mB 116) 54 = .ok (.istore_n 1, 1) := by decide +kernel
theorem u116_54 {d : Nat} {ls : Lo} {st : List Va} {σ : Sg} {Q : Rs → Sg → Prop} {z : Int} : Wx d 116 54 ls (vi z :: st) σ Q ↔ Wx d 116 55 (lset ls 1 (vi z)) st σ Q := u_istore_n d116_54 (by decide)
theorem d116_55 : decode (mB 116) 55 = .ok (.iconst 0, 1) := by decide +kernel
theorem u116_55 {d : Nat} {ls : Lo} {st : List Va} {σ : Sg} {Q : Rs → Sg → Prop} : Wx d 116 55 ls st σ Q ↔ Wx d 116 56 ls (vi 0 :: st) σ Q := u_iconst d116_55
theorem d116_56 : decode (mB 116) 56 = .ok (.istore_n 2, 1) := by decide +kernel
theorem u116_56 {d : Nat} {ls : Lo} {st : List Va} {σ : Sg} {Q : Rs → Sg → Prop} {z : Int} : Wx d 116 56 ls (vi z :: st) σ Q ↔ Wx d 116 57 (lset ls 2 (vi z)) st σ Q := u_istore_n d116_56 (by decide)
theorem d116_57 : decode (mB 116) 57 = .ok (.iload_n 2, 1) := by decide +kernel
theorem u116_57 {d : Nat} {ls : Lo} {st : List Va} {σ : Sg} {Q : Rs → Sg → Prop} : Wx d 116 57 ls st σ Q ↔ Li (lget ls 2) (fun z => Wx d 116 58 ls (vi z :: st) σ Q) := u_iload_n d116_57
theorem d116_58 : decode (mB 116) 58 = .ok (.aload_n 0, 1) := by decide +kernel
theorem u116_58 {d : Nat} {ls : Lo} {st : List Va} {σ : Sg} {Q : Rs → Sg → Prop} : Wx d 116 58 ls st σ Q ↔ Lr (lget ls 0) (fun z => Wx d 116 59 ls (.inr (.inl z) :: st) σ Q) := u_aload_n d116_58
theorem d116_59 : decode (mB 116) 59 = .ok (.getfield 65, 3) := by decide +kernel
theorem u116_59 {d : Nat} {ls : Lo} {st : List Va} {σ : Sg} {Q : Rs → Sg → Prop} {g j : Nat} : Wx d 116 59 ls (vr g j :: st) σ Q ↔ isO g j 7 ∧ Wx d 116 62 ls (fvv σ g j 26 :: st) σ Q := u_get (w := (7, 26)) d116_59 rfl
theorem d116_62 : decode (mB 116) 62 = .ok (.iconst 0, 1) := by decide +kernel
theorem u116_62 {d : Nat} {ls : Lo} {st : List Va} {σ : Sg} {Q : Rs → Sg → Prop} : Wx d 116 62 ls st σ Q ↔ Wx d 116 63 ls (vi 0 :: st) σ Q := u_iconst d116_62
theorem d116_63 : decode (mB 116) 63 = .ok (.iaload, 1) := by decide +kernel
theorem u116_63 {d : Nat} {ls : Lo} {st : List Va} {σ : Sg} {Q : Rs → Sg → Prop} {z : Int} {g j : Nat} : Wx d 116 63 ls (vi z :: vr g j :: st) σ Q ↔ On (ial σ g j z) (fun x => Wx d 116 64 ls (vi x :: st) σ Q) := u_iald d116_63
theorem d116_64 : decode (mB 116) 64 = .ok (.if_icmp .ge 45, 3) := by decide +kernel
theorem u116_64 {d : Nat} {ls : Lo} {st : List Va} {σ : Sg} {Q : Rs → Sg → Prop} {a b : Int} (h : -2147483648 ≤ a ∧ a ≤ 2147483647) (h2 : -2147483648 ≤ b ∧ b ≤ 2147483647) : Wx d 116 64 ls (vi b :: vi a :: st) σ Q ↔ if b ≤ a then Wx d 116 109 ls st σ Q else Wx d 116 67 ls st σ Q := u_icge d116_64 (by decide) h h2
theorem d116_67 : decode (mB 116) 67 = .ok (.aload_n 0, 1) := by decide +kernel
theorem u116_67 {d : Nat} {ls : Lo} {st : List Va} {σ : Sg} {Q : Rs → Sg → Prop} : Wx d 116 67 ls st σ Q ↔ Lr (lget ls 0) (fun z => Wx d 116 68 ls (.inr (.inl z) :: st) σ Q) := u_aload_n d116_67
theorem d116_68 : decode (mB 116) 68 = .ok (.getfield 77, 3) := by decide +kernel
theorem u116_68 {d : Nat} {ls : Lo} {st : List Va} {σ : Sg} {Q : Rs → Sg → Prop} {g j : Nat} : Wx d 116 68 ls (vr g j :: st) σ Q ↔ isO g j 7 ∧ Wx d 116 71 ls (fvv σ g j 30 :: st) σ Q := u_get (w := (7, 30)) d116_68 rfl
theorem d116_71 : decode (mB 116) 71 = .ok (.iload_n 2, 1) := by decide +kernel
theorem u116_71 {d : Nat} {ls : Lo} {st : List Va} {σ : Sg} {Q : Rs → Sg → Prop} : Wx d 116 71 ls st σ Q ↔ Li (lget ls 2) (fun z => Wx d 116 72 ls (vi z :: st) σ Q) := u_iload_n d116_71
theorem d116_72 : decode (mB 116) 72 = .ok (.iaload, 1) := by decide +kernel
theorem u116_72 {d : Nat} {ls : Lo} {st : List Va} {σ : Sg} {Q : Rs → Sg → Prop} {z : Int} {g j : Nat} : Wx d 116 72 ls (vi z :: vr g j :: st) σ Q ↔ On (ial σ g j z) (fun x => Wx d 116 73 ls (vi x :: st) σ Q) := u_iald d116_72
theorem d116_73 : decode (mB 116) 73 = .ok (.ldc 220, 2) := by decide +kernel
theorem u116_73 {d : Nat} {ls : Lo} {st : List Va} {σ : Sg} {Q : Rs → Sg → Prop} : Wx d 116 73 ls st σ Q ↔ Wx d 116 75 ls (vi 1000000 :: st) σ Q := u_ldc d116_73 rfl
theorem d116_75 : decode (mB 116) 75 = .ok (.if_icmp .ge 26, 3) := by decide +kernel
theorem u116_75 {d : Nat} {ls : Lo} {st : List Va} {σ : Sg} {Q : Rs → Sg → Prop} {a b : Int} (h : -2147483648 ≤ a ∧ a ≤ 2147483647) (h2 : -2147483648 ≤ b ∧ b ≤ 2147483647) : Wx d 116 75 ls (vi b :: vi a :: st) σ Q ↔ if b ≤ a then Wx d 116 101 ls st σ Q else Wx d 116 78 ls st σ Q := u_icge d116_75 (by decide) h h2
theorem d116_78 : decode (mB 116) 78 = .ok (.iload_n 1, 1) := by decide +kernel
theorem u116_78 {d : Nat} {ls : Lo} {st : List Va} {σ : Sg} {Q : Rs → Sg → Prop} : Wx d 116 78 ls st σ Q ↔ Li (lget ls 1) (fun z => Wx d 116 79 ls (vi z :: st) σ Q) := u_iload_n d116_78
theorem d116_79 : decode (mB 116) 79 = .ok (.ifCond .lt 18, 3) := by decide +kernel
theorem u116_79 {d : Nat} {ls : Lo} {st : List Va} {σ : Sg} {Q : Rs → Sg → Prop} {a : Int} (h : -2147483648 ≤ a ∧ a ≤ 2147483647) : Wx d 116 79 ls (vi a :: st) σ Q ↔ if a < 0 then Wx d 116 97 ls st σ Q else Wx d 116 82 ls st σ Q := u_iflt d116_79 (by decide) h
theorem d116_82 : decode (mB 116) 82 = .ok (.aload_n 0, 1) := by decide +kernel
theorem u116_82 {d : Nat} {ls : Lo} {st : List Va} {σ : Sg} {Q : Rs → Sg → Prop} : Wx d 116 82 ls st σ Q ↔ Lr (lget ls 0) (fun z => Wx d 116 83 ls (.inr (.inl z) :: st) σ Q) := u_aload_n d116_82
theorem d116_83 : decode (mB 116) 83 = .ok (.getfield 77, 3) := by decide +kernel
theorem u116_83 {d : Nat} {ls : Lo} {st : List Va} {σ : Sg} {Q : Rs → Sg → Prop} {g j : Nat} : Wx d 116 83 ls (vr g j :: st) σ Q ↔ isO g j 7 ∧ Wx d 116 86 ls (fvv σ g j 30 :: st) σ Q := u_get (w := (7, 30)) d116_83 rfl
theorem d116_86 : decode (mB 116) 86 = .ok (.iload_n 2, 1) := by decide +kernel
theorem u116_86 {d : Nat} {ls : Lo} {st : List Va} {σ : Sg} {Q : Rs → Sg → Prop} : Wx d 116 86 ls st σ Q ↔ Li (lget ls 2) (fun z => Wx d 116 87 ls (vi z :: st) σ Q) := u_iload_n d116_86
theorem d116_87 : decode (mB 116) 87 = .ok (.iaload, 1) := by decide +kernel
theorem u116_87 {d : Nat} {ls : Lo} {st : List Va} {σ : Sg} {Q : Rs → Sg → Prop} {z : Int} {g j : Nat} : Wx d 116 87 ls (vi z :: vr g j :: st) σ Q ↔ On (ial σ g j z) (fun x => Wx d 116 88 ls (vi x :: st) σ Q) := u_iald d116_87
theorem d116_88 : decode (mB 116) 88 = .ok (.aload_n 0, 1) := by decide +kernel
theorem u116_88 {d : Nat} {ls : Lo} {st : List Va} {σ : Sg} {Q : Rs → Sg → Prop} : Wx d 116 88 ls st σ Q ↔ Lr (lget ls 0) (fun z => Wx d 116 89 ls (.inr (.inl z) :: st) σ Q) := u_aload_n d116_88
theorem d116_89 : decode (mB 116) 89 = .ok (.getfield 77, 3) := by decide +kernel
theorem u116_89 {d : Nat} {ls : Lo} {st : List Va} {σ : Sg} {Q : Rs → Sg → Prop} {g j : Nat} : Wx d 116 89 ls (vr g j :: st) σ Q ↔ isO g j 7 ∧ Wx d 116 92 ls (fvv σ g j 30 :: st) σ Q := u_get (w := (7, 30)) d116_89 rfl
theorem d116_92 : decode (mB 116) 92 = .ok (.iload_n 1, 1) := by decide +kernel
theorem u116_92 {d : Nat} {ls : Lo} {st : List Va} {σ : Sg} {Q : Rs → Sg → Prop} : Wx d 116 92 ls st σ Q ↔ Li (lget ls 1) (fun z => Wx d 116 93 ls (vi z :: st) σ Q) := u_iload_n d116_92
theorem d116_93 : decode (mB 116) 93 = .ok (.iaload, 1) := by decide +kernel
theorem u116_93 {d : Nat} {ls : Lo} {st : List Va} {σ : Sg} {Q : Rs → Sg → Prop} {z : Int} {g j : Nat} : Wx d 116 93 ls (vi z :: vr g j :: st) σ Q ↔ On (ial σ g j z) (fun x => Wx d 116 94 ls (vi x :: st) σ Q) := u_iald d116_93
theorem d116_94 : decode (mB 116) 94 = .ok (.if_icmp .ge 7, 3) := by decide +kernel
theorem u116_94 {d : Nat} {ls : Lo} {st : List Va} {σ : Sg} {Q : Rs → Sg → Prop} {a b : Int} (h : -2147483648 ≤ a ∧ a ≤ 2147483647) (h2 : -2147483648 ≤ b ∧ b ≤ 2147483647) : Wx d 116 94 ls (vi b :: vi a :: st) σ Q ↔ if b ≤ a then Wx d 116 101 ls st σ Q else Wx d 116 97 ls st σ Q := u_icge d116_94 (by decide) h h2
theorem d116_97 : decode (mB 116) 97 = .ok (.iload_n 2, 1) := by decide +kernel
theorem u116_97 {d : Nat} {ls : Lo} {st : List Va} {σ : Sg} {Q : Rs → Sg → Prop} : Wx d 116 97 ls st σ Q ↔ Li (lget ls 2) (fun z => Wx d 116 98 ls (vi z :: st) σ Q) := u_iload_n d116_97
theorem d116_98 : decode (mB 116) 98 = .ok (.goto 4, 3) := by decide +kernel
theorem u116_98 {d : Nat} {ls : Lo} {st : List Va} {σ : Sg} {Q : Rs → Sg → Prop} : Wx d 116 98 ls st σ Q ↔ Wx d 116 102 ls st σ Q := u_goto d116_98 (by decide)
theorem d116_101 : decode (mB 116) 101 = .ok (.iload_n 1, 1) := by decide +kernel
theorem u116_101 {d : Nat} {ls : Lo} {st : List Va} {σ : Sg} {Q : Rs → Sg → Prop} : Wx d 116 101 ls st σ Q ↔ Li (lget ls 1) (fun z => Wx d 116 102 ls (vi z :: st) σ Q) := u_iload_n d116_101
theorem d116_102 : decode (mB 116) 102 = .ok (.istore_n 1, 1) := by decide +kernel
theorem u116_102 {d : Nat} {ls : Lo} {st : List Va} {σ : Sg} {Q : Rs → Sg → Prop} {z : Int} : Wx d 116 102 ls (vi z :: st) σ Q ↔ Wx d 116 103 (lset ls 1 (vi z)) st σ Q := u_istore_n d116_102 (by decide)
theorem d116_103 : decode (mB 116) 103 = .ok (.iinc 2 1, 3) := by decide +kernel
theorem u116_103 {d : Nat} {ls : Lo} {st : List Va} {σ : Sg} {Q : Rs → Sg → Prop} : Wx d 116 103 ls st σ Q ↔ Li (lget ls 2) (fun z => Wx d 116 106 (lset ls 2 (vi (z + 1))) st σ Q) := u_iinc d116_103 (by decide)
theorem d116_106 : decode (mB 116) 106 = .ok (.goto (-49), 3) := by decide +kernel
theorem u116_106 {d : Nat} {ls : Lo} {st : List Va} {σ : Sg} {Q : Rs → Sg → Prop} : Wx d 116 106 ls st σ Q ↔ Wx d 116 57 ls st σ Q := u_goto d116_106 (by decide)
theorem d116_109 : decode (mB 116) 109 = .ok (.iload_n 1, 1) := by decide +kernel
theorem u116_109 {d : Nat} {ls : Lo} {st : List Va} {σ : Sg} {Q : Rs → Sg → Prop} : Wx d 116 109 ls st σ Q ↔ Li (lget ls 1) (fun z => Wx d 116 110 ls (vi z :: st) σ Q) := u_iload_n d116_109
theorem d116_110 : decode (mB 116) 110 = .ok (.ifCond .ge 10, 3) := by decide +kernel
theorem u116_110 {d : Nat} {ls : Lo} {st : List Va} {σ : Sg} {Q : Rs → Sg → Prop} {a : Int} (h : -2147483648 ≤ a ∧ a ≤ 2147483647) : Wx d 116 110 ls (vi a :: st) σ Q ↔ if 0 ≤ a then Wx d 116 120 ls st σ Q else Wx d 116 113 ls st σ Q := u_ifge d116_110 (by decide) h
theorem d116_113 : decode (mB 116) 113 = .ok (.iconst (-1), 1) := by decide +kernel
theorem u116_113 {d : Nat} {ls : Lo} {st : List Va} {σ : Sg} {Q : Rs → Sg → Prop} : Wx d 116 113 ls st σ Q ↔ Wx d 116 114 ls (vi (-1) :: st) σ Q := u_iconst d116_113
theorem d116_114 : decode (mB 116) 114 = .ok (.aload_n 0, 1) := by decide +kernel
theorem u116_114 {d : Nat} {ls : Lo} {st : List Va} {σ : Sg} {Q : Rs → Sg → Prop} : Wx d 116 114 ls st σ Q ↔ Lr (lget ls 0) (fun z => Wx d 116 115 ls (.inr (.inl z) :: st) σ Q) := u_aload_n d116_114
theorem d116_115 : decode (mB 116) 115 = .ok (.invokevirtual 240, 3) := by decide +kernel
theorem u116_115 {d : Nat} {ls : Lo} {st : List Va} {σ : Sg} {Q : Rs → Sg → Prop} {g j : Nat} : Wx (d + 1) 116 115 ls (vr g j :: st) σ Q ↔ (isO g j 7 ∧ st.length ≤ 4 ∧ nlg [] = true) ∧ Wm d 113 [vr g j] σ (Kc (d + 1) 116 118 ls st Q) := u_inv0 d116_115 rfl rfl rfl
theorem d116_118 : decode (mB 116) 118 = .ok (.isub, 1) := by decide +kernel
theorem u116_118 {d : Nat} {ls : Lo} {st : List Va} {σ : Sg} {Q : Rs → Sg → Prop} {a b : Int} : Wx d 116 118 ls (vi b :: vi a :: st) σ Q ↔ Wx d 116 119 ls (vi (a - b) :: st) σ Q := u_isub d116_118
theorem d116_119 : decode (mB 116) 119 = .ok (.ireturn, 1) := by decide +kernel
theorem u116_119 {d : Nat} {ls : Lo} {σ : Sg} {Q : Rs → Sg → Prop} {z : Int} : Wx d 116 119 ls [vi z] σ Q ↔ Q (.inl (some (vi z))) σ := u_iret d116_119 rfl
theorem d116_120 : decode (mB 116) 120 = .ok (.aload_n 0, 1) := by decide +kernel
theorem u116_120 {d : Nat} {ls : Lo} {st : List Va} {σ : Sg} {Q : Rs → Sg → Prop} : Wx d 116 120 ls st σ Q ↔ Lr (lget ls 0) (fun z => Wx d 116 121 ls (.inr (.inl z) :: st) σ Q) := u_aload_n d116_120
theorem d116_121 : decode (mB 116) 121 = .ok (.getfield 77, 3) := by decide +kernel
theorem u116_121 {d : Nat} {ls : Lo} {st : List Va} {σ : Sg} {Q : Rs → Sg → Prop} {g j : Nat} : Wx d 116 121 ls (vr g j :: st) σ Q ↔ isO g j 7 ∧ Wx d 116 124 ls (fvv σ g j 30 :: st) σ Q := u_get (w := (7, 30)) d116_121 rfl
theorem d116_124 : decode (mB 116) 124 = .ok (.iload_n 1, 1) := by decide +kernel
theorem u116_124 {d : Nat} {ls : Lo} {st : List Va} {σ : Sg} {Q : Rs → Sg → Prop} : Wx d 116 124 ls st σ Q ↔ Li (lget ls 1) (fun z => Wx d 116 125 ls (vi z :: st) σ Q) := u_iload_n d116_124
theorem d116_125 : decode (mB 116) 125 = .ok (.iaload, 1) := by decide +kernel
theorem u116_125 {d : Nat} {ls : Lo} {st : List Va} {σ : Sg} {Q : Rs → Sg → Prop} {z : Int} {g j : Nat} : Wx d 116 125 ls (vi z :: vr g j :: st) σ Q ↔ On (ial σ g j z) (fun x => Wx d 116 126 ls (vi x :: st) σ Q) := u_iald d116_125
theorem d116_126 : decode (mB 116) 126 = .ok (.istore_n 2, 1) := by decide +kernel
theorem u116_126 {d : Nat} {ls : Lo} {st : List Va} {σ : Sg} {Q : Rs → Sg → Prop} {z : Int} : Wx d 116 126 ls (vi z :: st) σ Q ↔ Wx d 116 127 (lset ls 2 (vi z)) st σ Q := u_istore_n d116_126 (by decide)
theorem d116_127 : decode (mB 116) 127 = .ok (.aload_n 0, 1) := by decide +kernel
theorem u116_127 {d : Nat} {ls : Lo} {st : List Va} {σ : Sg} {Q : Rs → Sg → Prop} : Wx d 116 127 ls st σ Q ↔ Lr (lget ls 0) (fun z => Wx d 116 128 ls (.inr (.inl z) :: st) σ Q) := u_aload_n d116_127
theorem d116_128 : decode (mB 116) 128 = .ok (.iconst 0, 1) := by decide +kernel
theorem u116_128 {d : Nat} {ls : Lo} {st : List Va} {σ : Sg} {Q : Rs → Sg → Prop} : Wx d 116 128 ls st σ Q ↔ Wx d 116 129 ls (vi 0 :: st) σ Q := u_iconst d116_128
theorem d116_129 : decode (mB 116) 129 = .ok (.iload_n 1, 1) := by decide +kernel
theorem u116_129 {d : Nat} {ls : Lo} {st : List Va} {σ : Sg} {Q : Rs → Sg → Prop} : Wx d 116 129 ls st σ Q ↔ Li (lget ls 1) (fun z => Wx d 116 130 ls (vi z :: st) σ Q) := u_iload_n d116_129
theorem d116_130 : decode (mB 116) 130 = .ok (.invokevirtual 214, 3) := by decide +kernel
theorem u116_130 {d : Nat} {ls : Lo} {st : List Va} {σ : Sg} {Q : Rs → Sg → Prop} {g j : Nat} {a1 a2 : Va} : Wx (d + 1) 116 130 ls (a2 :: a1 :: vr g j :: st) σ Q ↔ (isO g j 7 ∧ st.length ≤ 4 ∧ nlg [a2, a1] = true) ∧ Wm d 105 [vr g j, a1, a2] σ (Kc (d + 1) 116 133 ls st Q) := u_inv2 d116_130 rfl rfl rfl
theorem d116_133 : decode (mB 116) 133 = .ok (.aload_n 0, 1) := by decide +kernel
theorem u116_133 {d : Nat} {ls : Lo} {st : List Va} {σ : Sg} {Q : Rs → Sg → Prop} : Wx d 116 133 ls st σ Q ↔ Lr (lget ls 0) (fun z => Wx d 116 134 ls (.inr (.inl z) :: st) σ Q) := u_aload_n d116_133
theorem d116_134 : decode (mB 116) 134 = .ok (.iconst 0, 1) := by decide +kernel
theorem u116_134 {d : Nat} {ls : Lo} {st : List Va} {σ : Sg} {Q : Rs → Sg → Prop} : Wx d 116 134 ls st σ Q ↔ Wx d 116 135 ls (vi 0 :: st) σ Q := u_iconst d116_134
theorem d116_135 : decode (mB 116) 135 = .ok (.iload_n 1, 1) := by decide +kernel
theorem u116_135 {d : Nat} {ls : Lo} {st : List Va} {σ : Sg} {Q : Rs → Sg → Prop} : Wx d 116 135 ls st σ Q ↔ Li (lget ls 1) (fun z => Wx d 116 136 ls (vi z :: st) σ Q) := u_iload_n d116_135
theorem d116_136 : decode (mB 116) 136 = .ok (.aload_n 0, 1) := by decide +kernel
theorem u116_136 {d : Nat} {ls : Lo} {st : List Va} {σ : Sg} {Q : Rs → Sg → Prop} : Wx d 116 136 ls st σ Q ↔ Lr (lget ls 0) (fun z => Wx d 116 137 ls (.inr (.inl z) :: st) σ Q) := u_aload_n d116_136
theorem d116_137 : decode (mB 116) 137 = .ok (.iconst 0, 1) := by decide +kernel
theorem u116_137 {d : Nat} {ls : Lo} {st : List Va} {σ : Sg} {Q : Rs → Sg → Prop} : Wx d 116 137 ls st σ Q ↔ Wx d 116 138 ls (vi 0 :: st) σ Q := u_iconst d116_137
theorem d116_138 : decode (mB 116) 138 = .ok (.invokevirtual 217, 3) := by decide +kernel
theorem u116_138 {d : Nat} {ls : Lo} {st : List Va} {σ : Sg} {Q : Rs → Sg → Prop} {g j : Nat} {a1 : Va} : Wx (d + 1) 116 138 ls (a1 :: vr g j :: st) σ Q ↔ (isO g j 7 ∧ st.length ≤ 4 ∧ nlg [a1] = true) ∧ Wm d 110 [vr g j, a1] σ (Kc (d + 1) 116 141 ls st Q) := u_inv1 d116_138 rfl rfl rfl
theorem d116_141 : decode (mB 116) 141 = .ok (.invokevirtual 243, 3) := by decide +kernel
theorem u116_141 {d : Nat} {ls : Lo} {st : List Va} {σ : Sg} {Q : Rs → Sg → Prop} {g j : Nat} {a1 a2 a3 : Va} : Wx (d + 1) 116 141 ls (a3 :: a2 :: a1 :: vr g j :: st) σ Q ↔ (isO g j 7 ∧ st.length ≤ 4 ∧ nlg [a3, a2, a1] = true) ∧ Wm d 114 [vr g j, a1, a2, a3] σ (Kc (d + 1) 116 144 ls st Q) := u_inv3 d116_141 rfl rfl rfl
theorem d116_144 : decode (mB 116) 144 = .ok (.iconst 0, 1) := by decide +kernel
theorem u116_144 {d : Nat} {ls : Lo} {st : List Va} {σ : Sg} {Q : Rs → Sg → Prop} : Wx d 116 144 ls st σ Q ↔ Wx d 116 145 ls (vi 0 :: st) σ Q := u_iconst d116_144
theorem d116_145 : decode (mB 116) 145 = .ok (.istore_n 3, 1) := by decide +kernel
theorem u116_145 {d : Nat} {ls : Lo} {st : List Va} {σ : Sg} {Q : Rs → Sg → Prop} {z : Int} : Wx d 116 145 ls (vi z :: st) σ Q ↔ Wx d 116 146 (lset ls 3 (vi z)) st σ Q := u_istore_n d116_145 (by decide)
theorem d116_146 : decode (mB 116) 146 = .ok (.iload_n 3, 1) := by decide +kernel
theorem u116_146 {d : Nat} {ls : Lo} {st : List Va} {σ : Sg} {Q : Rs → Sg → Prop} : Wx d 116 146 ls st σ Q ↔ Li (lget ls 3) (fun z => Wx d 116 147 ls (vi z :: st) σ Q) := u_iload_n d116_146
theorem d116_147 : decode (mB 116) 147 = .ok (.aload_n 0, 1) := by decide +kernel
theorem u116_147 {d : Nat} {ls : Lo} {st : List Va} {σ : Sg} {Q : Rs → Sg → Prop} : Wx d 116 147 ls st σ Q ↔ Lr (lget ls 0) (fun z => Wx d 116 148 ls (.inr (.inl z) :: st) σ Q) := u_aload_n d116_147
theorem d116_148 : decode (mB 116) 148 = .ok (.getfield 22, 3) := by decide +kernel
theorem u116_148 {d : Nat} {ls : Lo} {st : List Va} {σ : Sg} {Q : Rs → Sg → Prop} {g j : Nat} : Wx d 116 148 ls (vr g j :: st) σ Q ↔ isO g j 7 ∧ Wx d 116 151 ls (fvv σ g j 7 :: st) σ Q := u_get (w := (7, 7)) d116_148 rfl
theorem d116_151 : decode (mB 116) 151 = .ok (.iconst 1, 1) := by decide +kernel
theorem u116_151 {d : Nat} {ls : Lo} {st : List Va} {σ : Sg} {Q : Rs → Sg → Prop} : Wx d 116 151 ls st σ Q ↔ Wx d 116 152 ls (vi 1 :: st) σ Q := u_iconst d116_151
theorem d116_152 : decode (mB 116) 152 = .ok (.isub, 1) := by decide +kernel
theorem u116_152 {d : Nat} {ls : Lo} {st : List Va} {σ : Sg} {Q : Rs → Sg → Prop} {a b : Int} : Wx d 116 152 ls (vi b :: vi a :: st) σ Q ↔ Wx d 116 153 ls (vi (a - b) :: st) σ Q := u_isub d116_152
theorem d116_153 : decode (mB 116) 153 = .ok (.if_icmp .ge 67, 3) := by decide +kernel
theorem u116_153 {d : Nat} {ls : Lo} {st : List Va} {σ : Sg} {Q : Rs → Sg → Prop} {a b : Int} (h : -2147483648 ≤ a ∧ a ≤ 2147483647) (h2 : -2147483648 ≤ b ∧ b ≤ 2147483647) : Wx d 116 153 ls (vi b :: vi a :: st) σ Q ↔ if b ≤ a then Wx d 116 220 ls st σ Q else Wx d 116 156 ls st σ Q := u_icge d116_153 (by decide) h h2
theorem d116_156 : decode (mB 116) 156 = .ok (.aload_n 0, 1) := by decide +kernel
theorem u116_156 {d : Nat} {ls : Lo} {st : List Va} {σ : Sg} {Q : Rs → Sg → Prop} : Wx d 116 156 ls st σ Q ↔ Lr (lget ls 0) (fun z => Wx d 116 157 ls (.inr (.inl z) :: st) σ Q) := u_aload_n d116_156
theorem d116_157 : decode (mB 116) 157 = .ok (.iload_n 3, 1) := by decide +kernel
theorem u116_157 {d : Nat} {ls : Lo} {st : List Va} {σ : Sg} {Q : Rs → Sg → Prop} : Wx d 116 157 ls st σ Q ↔ Li (lget ls 3) (fun z => Wx d 116 158 ls (vi z :: st) σ Q) := u_iload_n d116_157
theorem d116_158 : decode (mB 116) 158 = .ok (.iload_n 1, 1) := by decide +kernel
theorem u116_158 {d : Nat} {ls : Lo} {st : List Va} {σ : Sg} {Q : Rs → Sg → Prop} : Wx d 116 158 ls st σ Q ↔ Li (lget ls 1) (fun z => Wx d 116 159 ls (vi z :: st) σ Q) := u_iload_n d116_158
theorem d116_159 : decode (mB 116) 159 = .ok (.invokevirtual 247, 3) := by decide +kernel
theorem u116_159 {d : Nat} {ls : Lo} {st : List Va} {σ : Sg} {Q : Rs → Sg → Prop} {g j : Nat} {a1 a2 : Va} : Wx (d + 1) 116 159 ls (a2 :: a1 :: vr g j :: st) σ Q ↔ (isO g j 7 ∧ st.length ≤ 4 ∧ nlg [a2, a1] = true) ∧ Wm d 115 [vr g j, a1, a2] σ (Kc (d + 1) 116 162 ls st Q) := u_inv2 d116_159 rfl rfl rfl
theorem d116_162 : decode (mB 116) 162 = .ok (.istore 4, 2) := by decide +kernel
theorem u116_162 {d : Nat} {ls : Lo} {st : List Va} {σ : Sg} {Q : Rs → Sg → Prop} {z : Int} : Wx d 116 162 ls (vi z :: st) σ Q ↔ Wx d 116 164 (lset ls 4 (vi z)) st σ Q := u_istore d116_162 (by decide)
theorem d116_164 : decode (mB 116) 164 = .ok (.aload_n 0, 1) := by decide +kernel
theorem u116_164 {d : Nat} {ls : Lo} {st : List Va} {σ : Sg} {Q : Rs → Sg → Prop} : Wx d 116 164 ls st σ Q ↔ Lr (lget ls 0) (fun z => Wx d 116 165 ls (.inr (.inl z) :: st) σ Q) := u_aload_n d116_164
theorem d116_165 : decode (mB 116) 165 = .ok (.iconst 0, 1) := by decide +kernel
theorem u116_165 {d : Nat} {ls : Lo} {st : List Va} {σ : Sg} {Q : Rs → Sg → Prop} : Wx d 116 165 ls st σ Q ↔ Wx d 116 166 ls (vi 0 :: st) σ Q := u_iconst d116_165
theorem d116_166 : decode (mB 116) 166 = .ok (.invokevirtual 224, 3) := by decide +kernel
theorem u116_166 {d : Nat} {ls : Lo} {st : List Va} {σ : Sg} {Q : Rs → Sg → Prop} {g j : Nat} {a1 : Va} : Wx (d + 1) 116 166 ls (a1 :: vr g j :: st) σ Q ↔ (isO g j 7 ∧ st.length ≤ 4 ∧ nlg [a1] = true) ∧ Wm d 108 [vr g j, a1] σ (Kc (d + 1) 116 169 ls st Q) := u_inv1 d116_166 rfl rfl rfl
theorem d116_169 : decode (mB 116) 169 = .ok (.aload_n 0, 1) := by decide +kernel
theorem u116_169 {d : Nat} {ls : Lo} {st : List Va} {σ : Sg} {Q : Rs → Sg → Prop} : Wx d 116 169 ls st σ Q ↔ Lr (lget ls 0) (fun z => Wx d 116 170 ls (.inr (.inl z) :: st) σ Q) := u_aload_n d116_169
theorem d116_170 : decode (mB 116) 170 = .ok (.iconst 1, 1) := by decide +kernel
theorem u116_170 {d : Nat} {ls : Lo} {st : List Va} {σ : Sg} {Q : Rs → Sg → Prop} : Wx d 116 170 ls st σ Q ↔ Wx d 116 171 ls (vi 1 :: st) σ Q := u_iconst d116_170
theorem d116_171 : decode (mB 116) 171 = .ok (.invokevirtual 224, 3) := by decide +kernel
theorem u116_171 {d : Nat} {ls : Lo} {st : List Va} {σ : Sg} {Q : Rs → Sg → Prop} {g j : Nat} {a1 : Va} : Wx (d + 1) 116 171 ls (a1 :: vr g j :: st) σ Q ↔ (isO g j 7 ∧ st.length ≤ 4 ∧ nlg [a1] = true) ∧ Wm d 108 [vr g j, a1] σ (Kc (d + 1) 116 174 ls st Q) := u_inv1 d116_171 rfl rfl rfl
theorem d116_174 : decode (mB 116) 174 = .ok (.iadd, 1) := by decide +kernel
theorem u116_174 {d : Nat} {ls : Lo} {st : List Va} {σ : Sg} {Q : Rs → Sg → Prop} {a b : Int} : Wx d 116 174 ls (vi b :: vi a :: st) σ Q ↔ Wx d 116 175 ls (vi (a + b) :: st) σ Q := u_iadd d116_174
theorem d116_175 : decode (mB 116) 175 = .ok (.aload_n 0, 1) := by decide +kernel
theorem u116_175 {d : Nat} {ls : Lo} {st : List Va} {σ : Sg} {Q : Rs → Sg → Prop} : Wx d 116 175 ls st σ Q ↔ Lr (lget ls 0) (fun z => Wx d 116 176 ls (.inr (.inl z) :: st) σ Q) := u_aload_n d116_175
theorem d116_176 : decode (mB 116) 176 = .ok (.iconst 2, 1) := by decide +kernel
theorem u116_176 {d : Nat} {ls : Lo} {st : List Va} {σ : Sg} {Q : Rs → Sg → Prop} : Wx d 116 176 ls st σ Q ↔ Wx d 116 177 ls (vi 2 :: st) σ Q := u_iconst d116_176
theorem d116_177 : decode (mB 116) 177 = .ok (.invokevirtual 224, 3) := by decide +kernel
theorem u116_177 {d : Nat} {ls : Lo} {st : List Va} {σ : Sg} {Q : Rs → Sg → Prop} {g j : Nat} {a1 : Va} : Wx (d + 1) 116 177 ls (a1 :: vr g j :: st) σ Q ↔ (isO g j 7 ∧ st.length ≤ 4 ∧ nlg [a1] = true) ∧ Wm d 108 [vr g j, a1] σ (Kc (d + 1) 116 180 ls st Q) := u_inv1 d116_177 rfl rfl rfl
theorem d116_180 : decode (mB 116) 180 = .ok (.iadd, 1) := by decide +kernel
theorem u116_180 {d : Nat} {ls : Lo} {st : List Va} {σ : Sg} {Q : Rs → Sg → Prop} {a b : Int} : Wx d 116 180 ls (vi b :: vi a :: st) σ Q ↔ Wx d 116 181 ls (vi (a + b) :: st) σ Q := u_iadd d116_180
theorem d116_181 : decode (mB 116) 181 = .ok (.istore 5, 2) := by decide +kernel
theorem u116_181 {d : Nat} {ls : Lo} {st : List Va} {σ : Sg} {Q : Rs → Sg → Prop} {z : Int} : Wx d 116 181 ls (vi z :: st) σ Q ↔ Wx d 116 183 (lset ls 5 (vi z)) st σ Q := u_istore d116_181 (by decide)
theorem d116_183 : decode (mB 116) 183 = .ok (.aload_n 0, 1) := by decide +kernel
theorem u116_183 {d : Nat} {ls : Lo} {st : List Va} {σ : Sg} {Q : Rs → Sg → Prop} : Wx d 116 183 ls st σ Q ↔ Lr (lget ls 0) (fun z => Wx d 116 184 ls (.inr (.inl z) :: st) σ Q) := u_aload_n d116_183
theorem d116_184 : decode (mB 116) 184 = .ok (.iload_n 3, 1) := by decide +kernel
theorem u116_184 {d : Nat} {ls : Lo} {st : List Va} {σ : Sg} {Q : Rs → Sg → Prop} : Wx d 116 184 ls st σ Q ↔ Li (lget ls 3) (fun z => Wx d 116 185 ls (vi z :: st) σ Q) := u_iload_n d116_184
theorem d116_185 : decode (mB 116) 185 = .ok (.iconst 1, 1) := by decide +kernel
theorem u116_185 {d : Nat} {ls : Lo} {st : List Va} {σ : Sg} {Q : Rs → Sg → Prop} : Wx d 116 185 ls st σ Q ↔ Wx d 116 186 ls (vi 1 :: st) σ Q := u_iconst d116_185
theorem d116_186 : decode (mB 116) 186 = .ok (.iadd, 1) := by decide +kernel
theorem u116_186 {d : Nat} {ls : Lo} {st : List Va} {σ : Sg} {Q : Rs → Sg → Prop} {a b : Int} : Wx d 116 186 ls (vi b :: vi a :: st) σ Q ↔ Wx d 116 187 ls (vi (a + b) :: st) σ Q := u_iadd d116_186
theorem d116_187 : decode (mB 116) 187 = .ok (.iload 4, 2) := by decide +kernel
theorem u116_187 {d : Nat} {ls : Lo} {st : List Va} {σ : Sg} {Q : Rs → Sg → Prop} : Wx d 116 187 ls st σ Q ↔ Li (lget ls 4) (fun z => Wx d 116 189 ls (vi z :: st) σ Q) := u_iload d116_187
theorem d116_189 : decode (mB 116) 189 = .ok (.invokevirtual 214, 3) := by decide +kernel
theorem u116_189 {d : Nat} {ls : Lo} {st : List Va} {σ : Sg} {Q : Rs → Sg → Prop} {g j : Nat} {a1 a2 : Va} : Wx (d + 1) 116 189 ls (a2 :: a1 :: vr g j :: st) σ Q ↔ (isO g j 7 ∧ st.length ≤ 4 ∧ nlg [a2, a1] = true) ∧ Wm d 105 [vr g j, a1, a2] σ (Kc (d + 1) 116 192 ls st Q) := u_inv2 d116_189 rfl rfl rfl
theorem d116_192 : decode (mB 116) 192 = .ok (.aload_n 0, 1) := by decide +kernel
theorem u116_192 {d : Nat} {ls : Lo} {st : List Va} {σ : Sg} {Q : Rs → Sg → Prop} : Wx d 116 192 ls st σ Q ↔ Lr (lget ls 0) (fun z => Wx d 116 193 ls (.inr (.inl z) :: st) σ Q) := u_aload_n d116_192
theorem d116_193 : decode (mB 116) 193 = .ok (.iload_n 3, 1) := by decide +kernel
theorem u116_193 {d : Nat} {ls : Lo} {st : List Va} {σ : Sg} {Q : Rs → Sg → Prop} : Wx d 116 193 ls st σ Q ↔ Li (lget ls 3) (fun z => Wx d 116 194 ls (vi z :: st) σ Q) := u_iload_n d116_193
theorem d116_194 : decode (mB 116) 194 = .ok (.iconst 1, 1) := by decide +kernel
theorem u116_194 {d : Nat} {ls : Lo} {st : List Va} {σ : Sg} {Q : Rs → Sg → Prop} : Wx d 116 194 ls st σ Q ↔ Wx d 116 195 ls (vi 1 :: st) σ Q := u_iconst d116_194
theorem d116_195 : decode (mB 116) 195 = .ok (.iadd, 1) := by decide +kernel
theorem u116_195 {d : Nat} {ls : Lo} {st : List Va} {σ : Sg} {Q : Rs → Sg → Prop} {a b : Int} : Wx d 116 195 ls (vi b :: vi a :: st) σ Q ↔ Wx d 116 196 ls (vi (a + b) :: st) σ Q := u_iadd d116_195
theorem d116_196 : decode (mB 116) 196 = .ok (.iload 4, 2) := by decide +kernel
theorem u116_196 {d : Nat} {ls : Lo} {st : List Va} {σ : Sg} {Q : Rs → Sg → Prop} : Wx d 116 196 ls st σ Q ↔ Li (lget ls 4) (fun z => Wx d 116 198 ls (vi z :: st) σ Q) := u_iload d116_196
theorem d116_198 : decode (mB 116) 198 = .ok (.iload 5, 2) := by decide +kernel
theorem u116_198 {d : Nat} {ls : Lo} {st : List Va} {σ : Sg} {Q : Rs → Sg → Prop} : Wx d 116 198 ls st σ Q ↔ Li (lget ls 5) (fun z => Wx d 116 200 ls (vi z :: st) σ Q) := u_iload d116_198
theorem d116_200 : decode (mB 116) 200 = .ok (.aload_n 0, 1) := by decide +kernel
theorem u116_200 {d : Nat} {ls : Lo} {st : List Va} {σ : Sg} {Q : Rs → Sg → Prop} : Wx d 116 200 ls st σ Q ↔ Lr (lget ls 0) (fun z => Wx d 116 201 ls (.inr (.inl z) :: st) σ Q) := u_aload_n d116_200
theorem d116_201 : decode (mB 116) 201 = .ok (.iload_n 3, 1) := by decide +kernel
theorem u116_201 {d : Nat} {ls : Lo} {st : List Va} {σ : Sg} {Q : Rs → Sg → Prop} : Wx d 116 201 ls st σ Q ↔ Li (lget ls 3) (fun z => Wx d 116 202 ls (vi z :: st) σ Q) := u_iload_n d116_201
theorem d116_202 : decode (mB 116) 202 = .ok (.iconst 1, 1) := by decide +kernel
theorem u116_202 {d : Nat} {ls : Lo} {st : List Va} {σ : Sg} {Q : Rs → Sg → Prop} : Wx d 116 202 ls st σ Q ↔ Wx d 116 203 ls (vi 1 :: st) σ Q := u_iconst d116_202
theorem d116_203 : decode (mB 116) 203 = .ok (.iadd, 1) := by decide +kernel
theorem u116_203 {d : Nat} {ls : Lo} {st : List Va} {σ : Sg} {Q : Rs → Sg → Prop} {a b : Int} : Wx d 116 203 ls (vi b :: vi a :: st) σ Q ↔ Wx d 116 204 ls (vi (a + b) :: st) σ Q := u_iadd d116_203
theorem d116_204 : decode (mB 116) 204 = .ok (.invokevirtual 217, 3) := by decide +kernel
theorem u116_204 {d : Nat} {ls : Lo} {st : List Va} {σ : Sg} {Q : Rs → Sg → Prop} {g j : Nat} {a1 : Va} : Wx (d + 1) 116 204 ls (a1 :: vr g j :: st) σ Q ↔ (isO g j 7 ∧ st.length ≤ 4 ∧ nlg [a1] = true) ∧ Wm d 110 [vr g j, a1] σ (Kc (d + 1) 116 207 ls st Q) := u_inv1 d116_204 rfl rfl rfl
theorem d116_207 : decode (mB 116) 207 = .ok (.iadd, 1) := by decide +kernel
theorem u116_207 {d : Nat} {ls : Lo} {st : List Va} {σ : Sg} {Q : Rs → Sg → Prop} {a b : Int} : Wx d 116 207 ls (vi b :: vi a :: st) σ Q ↔ Wx d 116 208 ls (vi (a + b) :: st) σ Q := u_iadd d116_207
theorem d116_208 : decode (mB 116) 208 = .ok (.invokevirtual 243, 3) := by decide +kernel
theorem u116_208 {d : Nat} {ls : Lo} {st : List Va} {σ : Sg} {Q : Rs → Sg → Prop} {g j : Nat} {a1 a2 a3 : Va} : Wx (d + 1) 116 208 ls (a3 :: a2 :: a1 :: vr g j :: st) σ Q ↔ (isO g j 7 ∧ st.length ≤ 4 ∧ nlg [a3, a2, a1] = true) ∧ Wm d 114 [vr g j, a1, a2, a3] σ (Kc (d + 1) 116 211 ls st Q) := u_inv3 d116_208 rfl rfl rfl
theorem d116_211 : decode (mB 116) 211 = .ok (.iload 4, 2) := by decide +kernel
theorem u116_211 {d : Nat} {ls : Lo} {st : List Va} {σ : Sg} {Q : Rs → Sg → Prop} : Wx d 116 211 ls st σ Q ↔ Li (lget ls 4) (fun z => Wx d 116 213 ls (vi z :: st) σ Q) := u_iload d116_211
theorem d116_213 : decode (mB 116) 213 = .ok (.istore_n 1, 1) := by decide +kernel
theorem u116_213 {d : Nat} {ls : Lo} {st : List Va} {σ : Sg} {Q : Rs → Sg → Prop} {z : Int} : Wx d 116 213 ls (vi z :: st) σ Q ↔ Wx d 116 214 (lset ls 1 (vi z)) st σ Q := u_istore_n d116_213 (by decide)
theorem d116_214 : decode (mB 116) 214 = .ok (.iinc 3 1, 3) := by decide +kernel
theorem u116_214 {d : Nat} {ls : Lo} {st : List Va} {σ : Sg} {Q : Rs → Sg → Prop} : Wx d 116 214 ls st σ Q ↔ Li (lget ls 3) (fun z => Wx d 116 217 (lset ls 3 (vi (z + 1))) st σ Q) := u_iinc d116_214 (by decide)
theorem d116_217 : decode (mB 116) 217 = .ok (.goto (-71), 3) := by decide +kernel
theorem u116_217 {d : Nat} {ls : Lo} {st : List Va} {σ : Sg} {Q : Rs → Sg → Prop} : Wx d 116 217 ls st σ Q ↔ Wx d 116 146 ls st σ Q := u_goto d116_217 (by decide)
theorem d116_220 : decode (mB 116) 220 = .ok (.aload_n 0, 1) := by decide +kernel
theorem u116_220 {d : Nat} {ls : Lo} {st : List Va} {σ : Sg} {Q : Rs → Sg → Prop} : Wx d 116 220 ls st σ Q ↔ Lr (lget ls 0) (fun z => Wx d 116 221 ls (.inr (.inl z) :: st) σ Q) := u_aload_n d116_220
theorem d116_221 : decode (mB 116) 221 = .ok (.iconst 1, 1) := by decide +kernel
theorem u116_221 {d : Nat} {ls : Lo} {st : List Va} {σ : Sg} {Q : Rs → Sg → Prop} : Wx d 116 221 ls st σ Q ↔ Wx d 116 222 ls (vi 1 :: st) σ Q := u_iconst d116_221
theorem d116_222 : decode (mB 116) 222 = .ok (.putfield 129, 3) := by decide +kernel
theorem u116_222 {d : Nat} {ls : Lo} {st : List Va} {σ : Sg} {Q : Rs → Sg → Prop} {z : Int} {g j : Nat} : Wx d 116 222 ls (vi z :: vr g j :: st) σ Q ↔ (isO g j 7 ∧ rf g j 32 = none ∧ (z = 0 ∨ z = 1)) ∧ Wx d 116 225 ls st (up σ g j 32 z) Q := u_putz (w := (7, 32)) d116_222 rfl rfl rfl
theorem d116_225 : decode (mB 116) 225 = .ok (.iload_n 2, 1) := by decide +kernel
theorem u116_225 {d : Nat} {ls : Lo} {st : List Va} {σ : Sg} {Q : Rs → Sg → Prop} : Wx d 116 225 ls st σ Q ↔ Li (lget ls 2) (fun z => Wx d 116 226 ls (vi z :: st) σ Q) := u_iload_n d116_225
theorem d116_226 : decode (mB 116) 226 = .ok (.ireturn, 1) := by decide +kernel
theorem u116_226 {d : Nat} {ls : Lo} {σ : Sg} {Q : Rs → Sg → Prop} {z : Int} : Wx d 116 226 ls [vi z] σ Q ↔ Q (.inl (some (vi z))) σ := u_iret d116_226 rfl
/-! 117: FiguredBassModel.noVoice(II)Z -/
theorem d117_0 : decode (mB 117) 0 = .ok (.iload_n 1, 1) := by decide +kernel
theorem u117_0 {d : Nat} {ls : Lo} {st : List Va} {σ : Sg} {Q : Rs → Sg → Prop} : Wx d 117 0 ls st σ Q ↔ Li (lget ls 1) (fun z => Wx d 117 1 ls (vi z :: st) σ Q) := u_iload_n d117_0
theorem d117_1 : decode (mB 117) 1 = .ok (.ifCond .lt 20, 3) := by decide +kernel
theorem u117_1 {d : Nat} {ls : Lo} {st : List Va} {σ : Sg} {Q : Rs → Sg → Prop} {a : Int} (h : -2147483648 ≤ a ∧ a ≤ 2147483647) : Wx d 117 1 ls (vi a :: st) σ Q ↔ if a < 0 then Wx d 117 21 ls st σ Q else Wx d 117 4 ls st σ Q := u_iflt d117_1 (by decide) h
theorem d117_4 : decode (mB 117) 4 = .ok (.iload_n 1, 1) := by decide +kernel
theorem u117_4 {d : Nat} {ls : Lo} {st : List Va} {σ : Sg} {Q : Rs → Sg → Prop} : Wx d 117 4 ls st σ Q ↔ Li (lget ls 1) (fun z => Wx d 117 5 ls (vi z :: st) σ Q) := u_iload_n d117_4
theorem d117_5 : decode (mB 117) 5 = .ok (.aload_n 0, 1) := by decide +kernel
theorem u117_5 {d : Nat} {ls : Lo} {st : List Va} {σ : Sg} {Q : Rs → Sg → Prop} : Wx d 117 5 ls st σ Q ↔ Lr (lget ls 0) (fun z => Wx d 117 6 ls (.inr (.inl z) :: st) σ Q) := u_aload_n d117_5
theorem d117_6 : decode (mB 117) 6 = .ok (.getfield 22, 3) := by decide +kernel
theorem u117_6 {d : Nat} {ls : Lo} {st : List Va} {σ : Sg} {Q : Rs → Sg → Prop} {g j : Nat} : Wx d 117 6 ls (vr g j :: st) σ Q ↔ isO g j 7 ∧ Wx d 117 9 ls (fvv σ g j 7 :: st) σ Q := u_get (w := (7, 7)) d117_6 rfl
theorem d117_9 : decode (mB 117) 9 = .ok (.if_icmp .ge 12, 3) := by decide +kernel
theorem u117_9 {d : Nat} {ls : Lo} {st : List Va} {σ : Sg} {Q : Rs → Sg → Prop} {a b : Int} (h : -2147483648 ≤ a ∧ a ≤ 2147483647) (h2 : -2147483648 ≤ b ∧ b ≤ 2147483647) : Wx d 117 9 ls (vi b :: vi a :: st) σ Q ↔ if b ≤ a then Wx d 117 21 ls st σ Q else Wx d 117 12 ls st σ Q := u_icge d117_9 (by decide) h h2
theorem d117_12 : decode (mB 117) 12 = .ok (.iload_n 2, 1) := by decide +kernel
theorem u117_12 {d : Nat} {ls : Lo} {st : List Va} {σ : Sg} {Q : Rs → Sg → Prop} : Wx d 117 12 ls st σ Q ↔ Li (lget ls 2) (fun z => Wx d 117 13 ls (vi z :: st) σ Q) := u_iload_n d117_12
theorem d117_13 : decode (mB 117) 13 = .ok (.ifCond .lt 8, 3) := by decide +kernel
theorem u117_13 {d : Nat} {ls : Lo} {st : List Va} {σ : Sg} {Q : Rs → Sg → Prop} {a : Int} (h : -2147483648 ≤ a ∧ a ≤ 2147483647) : Wx d 117 13 ls (vi a :: st) σ Q ↔ if a < 0 then Wx d 117 21 ls st σ Q else Wx d 117 16 ls st σ Q := u_iflt d117_13 (by decide) h
theorem d117_16 : decode (mB 117) 16 = .ok (.iload_n 2, 1) := by decide +kernel
theorem u117_16 {d : Nat} {ls : Lo} {st : List Va} {σ : Sg} {Q : Rs → Sg → Prop} : Wx d 117 16 ls st σ Q ↔ Li (lget ls 2) (fun z => Wx d 117 17 ls (vi z :: st) σ Q) := u_iload_n d117_16
theorem d117_17 : decode (mB 117) 17 = .ok (.iconst 3, 1) := by decide +kernel
theorem u117_17 {d : Nat} {ls : Lo} {st : List Va} {σ : Sg} {Q : Rs → Sg → Prop} : Wx d 117 17 ls st σ Q ↔ Wx d 117 18 ls (vi 3 :: st) σ Q := u_iconst d117_17
theorem d117_18 : decode (mB 117) 18 = .ok (.if_icmp .le 7, 3) := by decide +kernel
theorem u117_18 {d : Nat} {ls : Lo} {st : List Va} {σ : Sg} {Q : Rs → Sg → Prop} {a b : Int} (h : -2147483648 ≤ a ∧ a ≤ 2147483647) (h2 : -2147483648 ≤ b ∧ b ≤ 2147483647) : Wx d 117 18 ls (vi b :: vi a :: st) σ Q ↔ if a ≤ b then Wx d 117 25 ls st σ Q else Wx d 117 21 ls st σ Q := u_icle d117_18 (by decide) h h2
theorem d117_21 : decode (mB 117) 21 = .ok (.iconst 1, 1) := by decide +kernel
theorem u117_21 {d : Nat} {ls : Lo} {st : List Va} {σ : Sg} {Q : Rs → Sg → Prop} : Wx d 117 21 ls st σ Q ↔ Wx d 117 22 ls (vi 1 :: st) σ Q := u_iconst d117_21
theorem d117_22 : decode (mB 117) 22 = .ok (.goto 4, 3) := by decide +kernel
theorem u117_22 {d : Nat} {ls : Lo} {st : List Va} {σ : Sg} {Q : Rs → Sg → Prop} : Wx d 117 22 ls st σ Q ↔ Wx d 117 26 ls st σ Q := u_goto d117_22 (by decide)
theorem d117_25 : decode (mB 117) 25 = .ok (.iconst 0, 1) := by decide +kernel
theorem u117_25 {d : Nat} {ls : Lo} {st : List Va} {σ : Sg} {Q : Rs → Sg → Prop} : Wx d 117 25 ls st σ Q ↔ Wx d 117 26 ls (vi 0 :: st) σ Q := u_iconst d117_25
theorem d117_26 : decode (mB 117) 26 = .ok (.ireturn, 1) := by decide +kernel
theorem u117_26 {d : Nat} {ls : Lo} {σ : Sg} {Q : Rs → Sg → Prop} {z : Int} (h : z = 0 ∨ z = 1) : Wx d 117 26 ls [vi z] σ Q ↔ Q (.inl (some (vi z))) σ := u_zret d117_26 rfl h
/-! 118: FiguredBassModel.note(II)I -/
theorem d118_0 : decode (mB 118) 0 = .ok (.aload_n 0, 1) := by decide +kernel
theorem u118_0 {d : Nat} {ls : Lo} {st : List Va} {σ : Sg} {Q : Rs → Sg → Prop} : Wx d 118 0 ls st σ Q ↔ Lr (lget ls 0) (fun z => Wx d 118 1 ls (.inr (.inl z) :: st) σ Q) := u_aload_n d118_0
theorem d118_1 : decode (mB 118) 1 = .ok (.aload_n 0, 1) := by decide +kernel
theorem u118_1 {d : Nat} {ls : Lo} {st : List Va} {σ : Sg} {Q : Rs → Sg → Prop} : Wx d 118 1 ls st σ Q ↔ Lr (lget ls 0) (fun z => Wx d 118 2 ls (.inr (.inl z) :: st) σ Q) := u_aload_n d118_1
theorem d118_2 : decode (mB 118) 2 = .ok (.iload_n 1, 1) := by decide +kernel
theorem u118_2 {d : Nat} {ls : Lo} {st : List Va} {σ : Sg} {Q : Rs → Sg → Prop} : Wx d 118 2 ls st σ Q ↔ Li (lget ls 1) (fun z => Wx d 118 3 ls (vi z :: st) σ Q) := u_iload_n d118_2
theorem d118_3 : decode (mB 118) 3 = .ok (.iload_n 2, 1) := by decide +kernel
theorem u118_3 {d : Nat} {ls : Lo} {st : List Va} {σ : Sg} {Q : Rs → Sg → Prop} : Wx d 118 3 ls st σ Q ↔ Li (lget ls 2) (fun z => Wx d 118 4 ls (vi z :: st) σ Q) := u_iload_n d118_3
theorem d118_4 : decode (mB 118) 4 = .ok (.invokevirtual 250, 3) := by decide +kernel
theorem u118_4 {d : Nat} {ls : Lo} {st : List Va} {σ : Sg} {Q : Rs → Sg → Prop} {g j : Nat} {a1 a2 : Va} : Wx (d + 1) 118 4 ls (a2 :: a1 :: vr g j :: st) σ Q ↔ (isO g j 7 ∧ st.length ≤ 4 ∧ nlg [a2, a1] = true) ∧ Wm d 117 [vr g j, a1, a2] σ (Kc (d + 1) 118 7 ls st Q) := u_inv2 d118_4 rfl rfl rfl
theorem d118_7 : decode (mB 118) 7 = .ok (.ifCond .eq 7, 3) := by decide +kernel
theorem u118_7 {d : Nat} {ls : Lo} {st : List Va} {σ : Sg} {Q : Rs → Sg → Prop} {a : Int} (h : -2147483648 ≤ a ∧ a ≤ 2147483647) : Wx d 118 7 ls (vi a :: st) σ Q ↔ if a = 0 then Wx d 118 14 ls st σ Q else Wx d 118 10 ls st σ Q := u_ifeq d118_7 (by decide) h
theorem d118_10 : decode (mB 118) 10 = .ok (.iconst 1, 1) := by decide +kernel
theorem u118_10 {d : Nat} {ls : Lo} {st : List Va} {σ : Sg} {Q : Rs → Sg → Prop} : Wx d 118 10 ls st σ Q ↔ Wx d 118 11 ls (vi 1 :: st) σ Q := u_iconst d118_10
theorem d118_11 : decode (mB 118) 11 = .ok (.goto 15, 3) := by decide +kernel
theorem u118_11 {d : Nat} {ls : Lo} {st : List Va} {σ : Sg} {Q : Rs → Sg → Prop} : Wx d 118 11 ls st σ Q ↔ Wx d 118 26 ls st σ Q := u_goto d118_11 (by decide)
theorem d118_14 : decode (mB 118) 14 = .ok (.aload_n 0, 1) := by decide +kernel
theorem u118_14 {d : Nat} {ls : Lo} {st : List Va} {σ : Sg} {Q : Rs → Sg → Prop} : Wx d 118 14 ls st σ Q ↔ Lr (lget ls 0) (fun z => Wx d 118 15 ls (.inr (.inl z) :: st) σ Q) := u_aload_n d118_14
theorem d118_15 : decode (mB 118) 15 = .ok (.getfield 129, 3) := by decide +kernel
theorem u118_15 {d : Nat} {ls : Lo} {st : List Va} {σ : Sg} {Q : Rs → Sg → Prop} {g j : Nat} : Wx d 118 15 ls (vr g j :: st) σ Q ↔ isO g j 7 ∧ Wx d 118 18 ls (fvv σ g j 32 :: st) σ Q := u_get (w := (7, 32)) d118_15 rfl
theorem d118_18 : decode (mB 118) 18 = .ok (.ifCond .ne 7, 3) := by decide +kernel
theorem u118_18 {d : Nat} {ls : Lo} {st : List Va} {σ : Sg} {Q : Rs → Sg → Prop} {a : Int} (h : -2147483648 ≤ a ∧ a ≤ 2147483647) : Wx d 118 18 ls (vi a :: st) σ Q ↔ if ¬ a = 0 then Wx d 118 25 ls st σ Q else Wx d 118 21 ls st σ Q := u_ifne d118_18 (by decide) h
theorem d118_21 : decode (mB 118) 21 = .ok (.iconst 2, 1) := by decide +kernel
theorem u118_21 {d : Nat} {ls : Lo} {st : List Va} {σ : Sg} {Q : Rs → Sg → Prop} : Wx d 118 21 ls st σ Q ↔ Wx d 118 22 ls (vi 2 :: st) σ Q := u_iconst d118_21
theorem d118_22 : decode (mB 118) 22 = .ok (.goto 4, 3) := by decide +kernel
theorem u118_22 {d : Nat} {ls : Lo} {st : List Va} {σ : Sg} {Q : Rs → Sg → Prop} : Wx d 118 22 ls st σ Q ↔ Wx d 118 26 ls st σ Q := u_goto d118_22 (by decide)
theorem d118_25 : decode (mB 118) 25 = .ok (.iconst 0, 1) := by decide +kernel
theorem u118_25 {d : Nat} {ls : Lo} {st : List Va} {σ : Sg} {Q : Rs → Sg → Prop} : Wx d 118 25 ls st σ Q ↔ Wx d 118 26 ls (vi 0 :: st) σ Q := u_iconst d118_25
theorem d118_26 : decode (mB 118) 26 = .ok (.putfield 108, 3) := by decide +kernel
theorem u118_26 {d : Nat} {ls : Lo} {st : List Va} {σ : Sg} {Q : Rs → Sg → Prop} {z : Int} {g j : Nat} : Wx d 118 26 ls (vi z :: vr g j :: st) σ Q ↔ (isO g j 7 ∧ rf g j 0 = none) ∧ Wx d 118 29 ls st (up σ g j 0 z) Q := u_put (w := (7, 0)) d118_26 rfl rfl rfl
theorem d118_29 : decode (mB 118) 29 = .ok (.aload_n 0, 1) := by decide +kernel
theorem u118_29 {d : Nat} {ls : Lo} {st : List Va} {σ : Sg} {Q : Rs → Sg → Prop} : Wx d 118 29 ls st σ Q ↔ Lr (lget ls 0) (fun z => Wx d 118 30 ls (.inr (.inl z) :: st) σ Q) := u_aload_n d118_29
theorem d118_30 : decode (mB 118) 30 = .ok (.getfield 108, 3) := by decide +kernel
theorem u118_30 {d : Nat} {ls : Lo} {st : List Va} {σ : Sg} {Q : Rs → Sg → Prop} {g j : Nat} : Wx d 118 30 ls (vr g j :: st) σ Q ↔ isO g j 7 ∧ Wx d 118 33 ls (fvv σ g j 0 :: st) σ Q := u_get (w := (7, 0)) d118_30 rfl
theorem d118_33 : decode (mB 118) 33 = .ok (.ifCond .ne 16, 3) := by decide +kernel
theorem u118_33 {d : Nat} {ls : Lo} {st : List Va} {σ : Sg} {Q : Rs → Sg → Prop} {a : Int} (h : -2147483648 ≤ a ∧ a ≤ 2147483647) : Wx d 118 33 ls (vi a :: st) σ Q ↔ if ¬ a = 0 then Wx d 118 49 ls st σ Q else Wx d 118 36 ls st σ Q := u_ifne d118_33 (by decide) h
theorem d118_36 : decode (mB 118) 36 = .ok (.aload_n 0, 1) := by decide +kernel
theorem u118_36 {d : Nat} {ls : Lo} {st : List Va} {σ : Sg} {Q : Rs → Sg → Prop} : Wx d 118 36 ls st σ Q ↔ Lr (lget ls 0) (fun z => Wx d 118 37 ls (.inr (.inl z) :: st) σ Q) := u_aload_n d118_36
theorem d118_37 : decode (mB 118) 37 = .ok (.getfield 84, 3) := by decide +kernel
theorem u118_37 {d : Nat} {ls : Lo} {st : List Va} {σ : Sg} {Q : Rs → Sg → Prop} {g j : Nat} : Wx d 118 37 ls (vr g j :: st) σ Q ↔ isO g j 7 ∧ Wx d 118 40 ls (fvv σ g j 33 :: st) σ Q := u_get (w := (7, 33)) d118_37 rfl
theorem d118_40 : decode (mB 118) 40 = .ok (.iconst 4, 1) := by decide +kernel
theorem u118_40 {d : Nat} {ls : Lo} {st : List Va} {σ : Sg} {Q : Rs → Sg → Prop} : Wx d 118 40 ls st σ Q ↔ Wx d 118 41 ls (vi 4 :: st) σ Q := u_iconst d118_40
theorem d118_41 : decode (mB 118) 41 = .ok (.iload_n 1, 1) := by decide +kernel
theorem u118_41 {d : Nat} {ls : Lo} {st : List Va} {σ : Sg} {Q : Rs → Sg → Prop} : Wx d 118 41 ls st σ Q ↔ Li (lget ls 1) (fun z => Wx d 118 42 ls (vi z :: st) σ Q) := u_iload_n d118_41
theorem d118_42 : decode (mB 118) 42 = .ok (.imul, 1) := by decide +kernel
theorem u118_42 {d : Nat} {ls : Lo} {st : List Va} {σ : Sg} {Q : Rs → Sg → Prop} {a b : Int} : Wx d 118 42 ls (vi b :: vi a :: st) σ Q ↔ Wx d 118 43 ls (vi (a * b) :: st) σ Q := u_imul d118_42
theorem d118_43 : decode (mB 118) 43 = .ok (.iload_n 2, 1) := by decide +kernel
theorem u118_43 {d : Nat} {ls : Lo} {st : List Va} {σ : Sg} {Q : Rs → Sg → Prop} : Wx d 118 43 ls st σ Q ↔ Li (lget ls 2) (fun z => Wx d 118 44 ls (vi z :: st) σ Q) := u_iload_n d118_43
theorem d118_44 : decode (mB 118) 44 = .ok (.iadd, 1) := by decide +kernel
theorem u118_44 {d : Nat} {ls : Lo} {st : List Va} {σ : Sg} {Q : Rs → Sg → Prop} {a b : Int} : Wx d 118 44 ls (vi b :: vi a :: st) σ Q ↔ Wx d 118 45 ls (vi (a + b) :: st) σ Q := u_iadd d118_44
theorem d118_45 : decode (mB 118) 45 = .ok (.iaload, 1) := by decide +kernel
theorem u118_45 {d : Nat} {ls : Lo} {st : List Va} {σ : Sg} {Q : Rs → Sg → Prop} {z : Int} {g j : Nat} : Wx d 118 45 ls (vi z :: vr g j :: st) σ Q ↔ On (ial σ g j z) (fun x => Wx d 118 46 ls (vi x :: st) σ Q) := u_iald d118_45
theorem d118_46 : decode (mB 118) 46 = .ok (.goto 4, 3) := by decide +kernel
theorem u118_46 {d : Nat} {ls : Lo} {st : List Va} {σ : Sg} {Q : Rs → Sg → Prop} : Wx d 118 46 ls st σ Q ↔ Wx d 118 50 ls st σ Q := u_goto d118_46 (by decide)
theorem d118_49 : decode (mB 118) 49 = .ok (.iconst 0, 1) := by decide +kernel
theorem u118_49 {d : Nat} {ls : Lo} {st : List Va} {σ : Sg} {Q : Rs → Sg → Prop} : Wx d 118 49 ls st σ Q ↔ Wx d 118 50 ls (vi 0 :: st) σ Q := u_iconst d118_49
theorem d118_50 : decode (mB 118) 50 = .ok (.ireturn, 1) := by decide +kernel
theorem u118_50 {d : Nat} {ls : Lo} {σ : Sg} {Q : Rs → Sg → Prop} {z : Int} : Wx d 118 50 ls [vi z] σ Q ↔ Q (.inl (some (vi z))) σ := u_iret d118_50 rfl
/-! 119: FiguredBassModel.cost(I)I -/
theorem d119_0 : decode (mB 119) 0 = .ok (.aload_n 0, 1) := by decide +kernel
theorem u119_0 {d : Nat} {ls : Lo} {st : List Va} {σ : Sg} {Q : Rs → Sg → Prop} : Wx d 119 0 ls st σ Q ↔ Lr (lget ls 0) (fun z => Wx d 119 1 ls (.inr (.inl z) :: st) σ Q) := u_aload_n d119_0
theorem d119_1 : decode (mB 119) 1 = .ok (.aload_n 0, 1) := by decide +kernel
theorem u119_1 {d : Nat} {ls : Lo} {st : List Va} {σ : Sg} {Q : Rs → Sg → Prop} : Wx d 119 1 ls st σ Q ↔ Lr (lget ls 0) (fun z => Wx d 119 2 ls (.inr (.inl z) :: st) σ Q) := u_aload_n d119_1
theorem d119_2 : decode (mB 119) 2 = .ok (.iload_n 1, 1) := by decide +kernel
theorem u119_2 {d : Nat} {ls : Lo} {st : List Va} {σ : Sg} {Q : Rs → Sg → Prop} : Wx d 119 2 ls st σ Q ↔ Li (lget ls 1) (fun z => Wx d 119 3 ls (vi z :: st) σ Q) := u_iload_n d119_2
theorem d119_3 : decode (mB 119) 3 = .ok (.iconst 0, 1) := by decide +kernel
theorem u119_3 {d : Nat} {ls : Lo} {st : List Va} {σ : Sg} {Q : Rs → Sg → Prop} : Wx d 119 3 ls st σ Q ↔ Wx d 119 4 ls (vi 0 :: st) σ Q := u_iconst d119_3
theorem d119_4 : decode (mB 119) 4 = .ok (.invokevirtual 250, 3) := by decide +kernel
theorem u119_4 {d : Nat} {ls : Lo} {st : List Va} {σ : Sg} {Q : Rs → Sg → Prop} {g j : Nat} {a1 a2 : Va} : Wx (d + 1) 119 4 ls (a2 :: a1 :: vr g j :: st) σ Q ↔ (isO g j 7 ∧ st.length ≤ 4 ∧ nlg [a2, a1] = true) ∧ Wm d 117 [vr g j, a1, a2] σ (Kc (d + 1) 119 7 ls st Q) := u_inv2 d119_4 rfl rfl rfl
theorem d119_7 : decode (mB 119) 7 = .ok (.ifCond .eq 7, 3) := by decide +kernel
theorem u119_7 {d : Nat} {ls : Lo} {st : List Va} {σ : Sg} {Q : Rs → Sg → Prop} {a : Int} (h : -2147483648 ≤ a ∧ a ≤ 2147483647) : Wx d 119 7 ls (vi a :: st) σ Q ↔ if a = 0 then Wx d 119 14 ls st σ Q else Wx d 119 10 ls st σ Q := u_ifeq d119_7 (by decide) h
theorem d119_10 : decode (mB 119) 10 = .ok (.iconst 1, 1) := by decide +kernel
theorem u119_10 {d : Nat} {ls : Lo} {st : List Va} {σ : Sg} {Q : Rs → Sg → Prop} : Wx d 119 10 ls st σ Q ↔ Wx d 119 11 ls (vi 1 :: st) σ Q := u_iconst d119_10
theorem d119_11 : decode (mB 119) 11 = .ok (.goto 15, 3) := by decide +kernel
theorem u119_11 {d : Nat} {ls : Lo} {st : List Va} {σ : Sg} {Q : Rs → Sg → Prop} : Wx d 119 11 ls st σ Q ↔ Wx d 119 26 ls st σ Q := u_goto d119_11 (by decide)
theorem d119_14 : decode (mB 119) 14 = .ok (.aload_n 0, 1) := by decide +kernel
theorem u119_14 {d : Nat} {ls : Lo} {st : List Va} {σ : Sg} {Q : Rs → Sg → Prop} : Wx d 119 14 ls st σ Q ↔ Lr (lget ls 0) (fun z => Wx d 119 15 ls (.inr (.inl z) :: st) σ Q) := u_aload_n d119_14
theorem d119_15 : decode (mB 119) 15 = .ok (.getfield 129, 3) := by decide +kernel
theorem u119_15 {d : Nat} {ls : Lo} {st : List Va} {σ : Sg} {Q : Rs → Sg → Prop} {g j : Nat} : Wx d 119 15 ls (vr g j :: st) σ Q ↔ isO g j 7 ∧ Wx d 119 18 ls (fvv σ g j 32 :: st) σ Q := u_get (w := (7, 32)) d119_15 rfl
theorem d119_18 : decode (mB 119) 18 = .ok (.ifCond .ne 7, 3) := by decide +kernel
theorem u119_18 {d : Nat} {ls : Lo} {st : List Va} {σ : Sg} {Q : Rs → Sg → Prop} {a : Int} (h : -2147483648 ≤ a ∧ a ≤ 2147483647) : Wx d 119 18 ls (vi a :: st) σ Q ↔ if ¬ a = 0 then Wx d 119 25 ls st σ Q else Wx d 119 21 ls st σ Q := u_ifne d119_18 (by decide) h
theorem d119_21 : decode (mB 119) 21 = .ok (.iconst 2, 1) := by decide +kernel
theorem u119_21 {d : Nat} {ls : Lo} {st : List Va} {σ : Sg} {Q : Rs → Sg → Prop} : Wx d 119 21 ls st σ Q ↔ Wx d 119 22 ls (vi 2 :: st) σ Q := u_iconst d119_21
theorem d119_22 : decode (mB 119) 22 = .ok (.goto 4, 3) := by decide +kernel
theorem u119_22 {d : Nat} {ls : Lo} {st : List Va} {σ : Sg} {Q : Rs → Sg → Prop} : Wx d 119 22 ls st σ Q ↔ Wx d 119 26 ls st σ Q := u_goto d119_22 (by decide)
theorem d119_25 : decode (mB 119) 25 = .ok (.iconst 0, 1) := by decide +kernel
theorem u119_25 {d : Nat} {ls : Lo} {st : List Va} {σ : Sg} {Q : Rs → Sg → Prop} : Wx d 119 25 ls st σ Q ↔ Wx d 119 26 ls (vi 0 :: st) σ Q := u_iconst d119_25
theorem d119_26 : decode (mB 119) 26 = .ok (.putfield 108, 3) := by decide +kernel
theorem u119_26 {d : Nat} {ls : Lo} {st : List Va} {σ : Sg} {Q : Rs → Sg → Prop} {z : Int} {g j : Nat} : Wx d 119 26 ls (vi z :: vr g j :: st) σ Q ↔ (isO g j 7 ∧ rf g j 0 = none) ∧ Wx d 119 29 ls st (up σ g j 0 z) Q := u_put (w := (7, 0)) d119_26 rfl rfl rfl
theorem d119_29 : decode (mB 119) 29 = .ok (.aload_n 0, 1) := by decide +kernel
theorem u119_29 {d : Nat} {ls : Lo} {st : List Va} {σ : Sg} {Q : Rs → Sg → Prop} : Wx d 119 29 ls st σ Q ↔ Lr (lget ls 0) (fun z => Wx d 119 30 ls (.inr (.inl z) :: st) σ Q) := u_aload_n d119_29
theorem d119_30 : decode (mB 119) 30 = .ok (.getfield 108, 3) := by decide +kernel
theorem u119_30 {d : Nat} {ls : Lo} {st : List Va} {σ : Sg} {Q : Rs → Sg → Prop} {g j : Nat} : Wx d 119 30 ls (vr g j :: st) σ Q ↔ isO g j 7 ∧ Wx d 119 33 ls (fvv σ g j 0 :: st) σ Q := u_get (w := (7, 0)) d119_30 rfl
theorem d119_33 : decode (mB 119) 33 = .ok (.ifCond .ne 12, 3) := by decide +kernel
theorem u119_33 {d : Nat} {ls : Lo} {st : List Va} {σ : Sg} {Q : Rs → Sg → Prop} {a : Int} (h : -2147483648 ≤ a ∧ a ≤ 2147483647) : Wx d 119 33 ls (vi a :: st) σ Q ↔ if ¬ a = 0 then Wx d 119 45 ls st σ Q else Wx d 119 36 ls st σ Q := u_ifne d119_33 (by decide) h
theorem d119_36 : decode (mB 119) 36 = .ok (.aload_n 0, 1) := by decide +kernel
theorem u119_36 {d : Nat} {ls : Lo} {st : List Va} {σ : Sg} {Q : Rs → Sg → Prop} : Wx d 119 36 ls st σ Q ↔ Lr (lget ls 0) (fun z => Wx d 119 37 ls (.inr (.inl z) :: st) σ Q) := u_aload_n d119_36
theorem d119_37 : decode (mB 119) 37 = .ok (.getfield 87, 3) := by decide +kernel
theorem u119_37 {d : Nat} {ls : Lo} {st : List Va} {σ : Sg} {Q : Rs → Sg → Prop} {g j : Nat} : Wx d 119 37 ls (vr g j :: st) σ Q ↔ isO g j 7 ∧ Wx d 119 40 ls (fvv σ g j 34 :: st) σ Q := u_get (w := (7, 34)) d119_37 rfl
theorem d119_40 : decode (mB 119) 40 = .ok (.iload_n 1, 1) := by decide +kernel
theorem u119_40 {d : Nat} {ls : Lo} {st : List Va} {σ : Sg} {Q : Rs → Sg → Prop} : Wx d 119 40 ls st σ Q ↔ Li (lget ls 1) (fun z => Wx d 119 41 ls (vi z :: st) σ Q) := u_iload_n d119_40
theorem d119_41 : decode (mB 119) 41 = .ok (.iaload, 1) := by decide +kernel
theorem u119_41 {d : Nat} {ls : Lo} {st : List Va} {σ : Sg} {Q : Rs → Sg → Prop} {z : Int} {g j : Nat} : Wx d 119 41 ls (vi z :: vr g j :: st) σ Q ↔ On (ial σ g j z) (fun x => Wx d 119 42 ls (vi x :: st) σ Q) := u_iald d119_41
theorem d119_42 : decode (mB 119) 42 = .ok (.goto 4, 3) := by decide +kernel
theorem u119_42 {d : Nat} {ls : Lo} {st : List Va} {σ : Sg} {Q : Rs → Sg → Prop} : Wx d 119 42 ls st σ Q ↔ Wx d 119 46 ls st σ Q := u_goto d119_42 (by decide)
theorem d119_45 : decode (mB 119) 45 = .ok (.iconst 0, 1) := by decide +kernel
theorem u119_45 {d : Nat} {ls : Lo} {st : List Va} {σ : Sg} {Q : Rs → Sg → Prop} : Wx d 119 45 ls st σ Q ↔ Wx d 119 46 ls (vi 0 :: st) σ Q := u_iconst d119_45
theorem d119_46 : decode (mB 119) 46 = .ok (.ireturn, 1) := by decide +kernel
theorem u119_46 {d : Nat} {ls : Lo} {σ : Sg} {Q : Rs → Sg → Prop} {z : Int} : Wx d 119 46 ls [vi z] σ Q ↔ Q (.inl (some (vi z))) σ := u_iret d119_46 rfl
/-! 120: FiguredBassModel.pupil(III)V -/
theorem d120_0 : decode (mB 120) 0 = .ok (.aload_n 0, 1) := by decide +kernel
theorem u120_0 {d : Nat} {ls : Lo} {st : List Va} {σ : Sg} {Q : Rs → Sg → Prop} : Wx d 120 0 ls st σ Q ↔ Lr (lget ls 0) (fun z => Wx d 120 1 ls (.inr (.inl z) :: st) σ Q) := u_aload_n d120_0
theorem d120_1 : decode (mB 120) 1 = .ok (.aload_n 0, 1) := by decide +kernel
theorem u120_1 {d : Nat} {ls : Lo} {st : List Va} {σ : Sg} {Q : Rs → Sg → Prop} : Wx d 120 1 ls st σ Q ↔ Lr (lget ls 0) (fun z => Wx d 120 2 ls (.inr (.inl z) :: st) σ Q) := u_aload_n d120_1
theorem d120_2 : decode (mB 120) 2 = .ok (.iload_n 1, 1) := by decide +kernel
theorem u120_2 {d : Nat} {ls : Lo} {st : List Va} {σ : Sg} {Q : Rs → Sg → Prop} : Wx d 120 2 ls st σ Q ↔ Li (lget ls 1) (fun z => Wx d 120 3 ls (vi z :: st) σ Q) := u_iload_n d120_2
theorem d120_3 : decode (mB 120) 3 = .ok (.invokevirtual 132, 3) := by decide +kernel
theorem u120_3 {d : Nat} {ls : Lo} {st : List Va} {σ : Sg} {Q : Rs → Sg → Prop} {g j : Nat} {a1 : Va} : Wx (d + 1) 120 3 ls (a1 :: vr g j :: st) σ Q ↔ (isO g j 7 ∧ st.length ≤ 4 ∧ nlg [a1] = true) ∧ Wm d 81 [vr g j, a1] σ (Kc (d + 1) 120 6 ls st Q) := u_inv1 d120_3 rfl rfl rfl
theorem d120_6 : decode (mB 120) 6 = .ok (.ifCond .ne 22, 3) := by decide +kernel
theorem u120_6 {d : Nat} {ls : Lo} {st : List Va} {σ : Sg} {Q : Rs → Sg → Prop} {a : Int} (h : -2147483648 ≤ a ∧ a ≤ 2147483647) : Wx d 120 6 ls (vi a :: st) σ Q ↔ if ¬ a = 0 then Wx d 120 28 ls st σ Q else Wx d 120 9 ls st σ Q := u_ifne d120_6 (by decide) h
theorem d120_9 : decode (mB 120) 9 = .ok (.iload_n 2, 1) := by decide +kernel
theorem u120_9 {d : Nat} {ls : Lo} {st : List Va} {σ : Sg} {Q : Rs → Sg → Prop} : Wx d 120 9 ls st σ Q ↔ Li (lget ls 2) (fun z => Wx d 120 10 ls (vi z :: st) σ Q) := u_iload_n d120_9
theorem d120_10 : decode (mB 120) 10 = .ok (.ifCond .lt 18, 3) := by decide +kernel
theorem u120_10 {d : Nat} {ls : Lo} {st : List Va} {σ : Sg} {Q : Rs → Sg → Prop} {a : Int} (h : -2147483648 ≤ a ∧ a ≤ 2147483647) : Wx d 120 10 ls (vi a :: st) σ Q ↔ if a < 0 then Wx d 120 28 ls st σ Q else Wx d 120 13 ls st σ Q := u_iflt d120_10 (by decide) h
theorem d120_13 : decode (mB 120) 13 = .ok (.iload_n 2, 1) := by decide +kernel
theorem u120_13 {d : Nat} {ls : Lo} {st : List Va} {σ : Sg} {Q : Rs → Sg → Prop} : Wx d 120 13 ls st σ Q ↔ Li (lget ls 2) (fun z => Wx d 120 14 ls (vi z :: st) σ Q) := u_iload_n d120_13
theorem d120_14 : decode (mB 120) 14 = .ok (.iconst 2, 1) := by decide +kernel
theorem u120_14 {d : Nat} {ls : Lo} {st : List Va} {σ : Sg} {Q : Rs → Sg → Prop} : Wx d 120 14 ls st σ Q ↔ Wx d 120 15 ls (vi 2 :: st) σ Q := u_iconst d120_14
theorem d120_15 : decode (mB 120) 15 = .ok (.if_icmp .gt 13, 3) := by decide +kernel
theorem u120_15 {d : Nat} {ls : Lo} {st : List Va} {σ : Sg} {Q : Rs → Sg → Prop} {a b : Int} (h : -2147483648 ≤ a ∧ a ≤ 2147483647) (h2 : -2147483648 ≤ b ∧ b ≤ 2147483647) : Wx d 120 15 ls (vi b :: vi a :: st) σ Q ↔ if b < a then Wx d 120 28 ls st σ Q else Wx d 120 18 ls st σ Q := u_icgt d120_15 (by decide) h h2
theorem d120_18 : decode (mB 120) 18 = .ok (.iload_n 3, 1) := by decide +kernel
theorem u120_18 {d : Nat} {ls : Lo} {st : List Va} {σ : Sg} {Q : Rs → Sg → Prop} : Wx d 120 18 ls st σ Q ↔ Li (lget ls 3) (fun z => Wx d 120 19 ls (vi z :: st) σ Q) := u_iload_n d120_18
theorem d120_19 : decode (mB 120) 19 = .ok (.ifCond .lt 9, 3) := by decide +kernel
theorem u120_19 {d : Nat} {ls : Lo} {st : List Va} {σ : Sg} {Q : Rs → Sg → Prop} {a : Int} (h : -2147483648 ≤ a ∧ a ≤ 2147483647) : Wx d 120 19 ls (vi a :: st) σ Q ↔ if a < 0 then Wx d 120 28 ls st σ Q else Wx d 120 22 ls st σ Q := u_iflt d120_19 (by decide) h
theorem d120_22 : decode (mB 120) 22 = .ok (.iload_n 3, 1) := by decide +kernel
theorem u120_22 {d : Nat} {ls : Lo} {st : List Va} {σ : Sg} {Q : Rs → Sg → Prop} : Wx d 120 22 ls st σ Q ↔ Li (lget ls 3) (fun z => Wx d 120 23 ls (vi z :: st) σ Q) := u_iload_n d120_22
theorem d120_23 : decode (mB 120) 23 = .ok (.bipush 127, 2) := by decide +kernel
theorem u120_23 {d : Nat} {ls : Lo} {st : List Va} {σ : Sg} {Q : Rs → Sg → Prop} : Wx d 120 23 ls st σ Q ↔ Wx d 120 25 ls (vi 127 :: st) σ Q := u_bipush d120_23 (by decide)
theorem d120_25 : decode (mB 120) 25 = .ok (.if_icmp .le 7, 3) := by decide +kernel
theorem u120_25 {d : Nat} {ls : Lo} {st : List Va} {σ : Sg} {Q : Rs → Sg → Prop} {a b : Int} (h : -2147483648 ≤ a ∧ a ≤ 2147483647) (h2 : -2147483648 ≤ b ∧ b ≤ 2147483647) : Wx d 120 25 ls (vi b :: vi a :: st) σ Q ↔ if a ≤ b then Wx d 120 32 ls st σ Q else Wx d 120 28 ls st σ Q := u_icle d120_25 (by decide) h h2
theorem d120_28 : decode (mB 120) 28 = .ok (.iconst 1, 1) := by decide +kernel
theorem u120_28 {d : Nat} {ls : Lo} {st : List Va} {σ : Sg} {Q : Rs → Sg → Prop} : Wx d 120 28 ls st σ Q ↔ Wx d 120 29 ls (vi 1 :: st) σ Q := u_iconst d120_28
theorem d120_29 : decode (mB 120) 29 = .ok (.goto 4, 3) := by decide +kernel
theorem u120_29 {d : Nat} {ls : Lo} {st : List Va} {σ : Sg} {Q : Rs → Sg → Prop} : Wx d 120 29 ls st σ Q ↔ Wx d 120 33 ls st σ Q := u_goto d120_29 (by decide)
theorem d120_32 : decode (mB 120) 32 = .ok (.iconst 0, 1) := by decide +kernel
theorem u120_32 {d : Nat} {ls : Lo} {st : List Va} {σ : Sg} {Q : Rs → Sg → Prop} : Wx d 120 32 ls st σ Q ↔ Wx d 120 33 ls (vi 0 :: st) σ Q := u_iconst d120_32
theorem d120_33 : decode (mB 120) 33 = .ok (.putfield 108, 3) := by decide +kernel
theorem u120_33 {d : Nat} {ls : Lo} {st : List Va} {σ : Sg} {Q : Rs → Sg → Prop} {z : Int} {g j : Nat} : Wx d 120 33 ls (vi z :: vr g j :: st) σ Q ↔ (isO g j 7 ∧ rf g j 0 = none) ∧ Wx d 120 36 ls st (up σ g j 0 z) Q := u_put (w := (7, 0)) d120_33 rfl rfl rfl
theorem d120_36 : decode (mB 120) 36 = .ok (.aload_n 0, 1) := by decide +kernel
theorem u120_36 {d : Nat} {ls : Lo} {st : List Va} {σ : Sg} {Q : Rs → Sg → Prop} : Wx d 120 36 ls st σ Q ↔ Lr (lget ls 0) (fun z => Wx d 120 37 ls (.inr (.inl z) :: st) σ Q) := u_aload_n d120_36
theorem d120_37 : decode (mB 120) 37 = .ok (.getfield 108, 3) := by decide +kernel
theorem u120_37 {d : Nat} {ls : Lo} {st : List Va} {σ : Sg} {Q : Rs → Sg → Prop} {g j : Nat} : Wx d 120 37 ls (vr g j :: st) σ Q ↔ isO g j 7 ∧ Wx d 120 40 ls (fvv σ g j 0 :: st) σ Q := u_get (w := (7, 0)) d120_37 rfl
theorem d120_40 : decode (mB 120) 40 = .ok (.ifCond .ne 14, 3) := by decide +kernel
theorem u120_40 {d : Nat} {ls : Lo} {st : List Va} {σ : Sg} {Q : Rs → Sg → Prop} {a : Int} (h : -2147483648 ≤ a ∧ a ≤ 2147483647) : Wx d 120 40 ls (vi a :: st) σ Q ↔ if ¬ a = 0 then Wx d 120 54 ls st σ Q else Wx d 120 43 ls st σ Q := u_ifne d120_40 (by decide) h
theorem d120_43 : decode (mB 120) 43 = .ok (.aload_n 0, 1) := by decide +kernel
theorem u120_43 {d : Nat} {ls : Lo} {st : List Va} {σ : Sg} {Q : Rs → Sg → Prop} : Wx d 120 43 ls st σ Q ↔ Lr (lget ls 0) (fun z => Wx d 120 44 ls (.inr (.inl z) :: st) σ Q) := u_aload_n d120_43
theorem d120_44 : decode (mB 120) 44 = .ok (.getfield 90, 3) := by decide +kernel
theorem u120_44 {d : Nat} {ls : Lo} {st : List Va} {σ : Sg} {Q : Rs → Sg → Prop} {g j : Nat} : Wx d 120 44 ls (vr g j :: st) σ Q ↔ isO g j 7 ∧ Wx d 120 47 ls (fvv σ g j 35 :: st) σ Q := u_get (w := (7, 35)) d120_44 rfl
theorem d120_47 : decode (mB 120) 47 = .ok (.iconst 3, 1) := by decide +kernel
theorem u120_47 {d : Nat} {ls : Lo} {st : List Va} {σ : Sg} {Q : Rs → Sg → Prop} : Wx d 120 47 ls st σ Q ↔ Wx d 120 48 ls (vi 3 :: st) σ Q := u_iconst d120_47
theorem d120_48 : decode (mB 120) 48 = .ok (.iload_n 1, 1) := by decide +kernel
theorem u120_48 {d : Nat} {ls : Lo} {st : List Va} {σ : Sg} {Q : Rs → Sg → Prop} : Wx d 120 48 ls st σ Q ↔ Li (lget ls 1) (fun z => Wx d 120 49 ls (vi z :: st) σ Q) := u_iload_n d120_48
theorem d120_49 : decode (mB 120) 49 = .ok (.imul, 1) := by decide +kernel
theorem u120_49 {d : Nat} {ls : Lo} {st : List Va} {σ : Sg} {Q : Rs → Sg → Prop} {a b : Int} : Wx d 120 49 ls (vi b :: vi a :: st) σ Q ↔ Wx d 120 50 ls (vi (a * b) :: st) σ Q := u_imul d120_49
theorem d120_50 : decode (mB 120) 50 = .ok (.iload_n 2, 1) := by decide +kernel
theorem u120_50 {d : Nat} {ls : Lo} {st : List Va} {σ : Sg} {Q : Rs → Sg → Prop} : Wx d 120 50 ls st σ Q ↔ Li (lget ls 2) (fun z => Wx d 120 51 ls (vi z :: st) σ Q) := u_iload_n d120_50
theorem d120_51 : decode (mB 120) 51 = .ok (.iadd, 1) := by decide +kernel
theorem u120_51 {d : Nat} {ls : Lo} {st : List Va} {σ : Sg} {Q : Rs → Sg → Prop} {a b : Int} : Wx d 120 51 ls (vi b :: vi a :: st) σ Q ↔ Wx d 120 52 ls (vi (a + b) :: st) σ Q := u_iadd d120_51
theorem d120_52 : decode (mB 120) 52 = .ok (.iload_n 3, 1) := by decide +kernel
theorem u120_52 {d : Nat} {ls : Lo} {st : List Va} {σ : Sg} {Q : Rs → Sg → Prop} : Wx d 120 52 ls st σ Q ↔ Li (lget ls 3) (fun z => Wx d 120 53 ls (vi z :: st) σ Q) := u_iload_n d120_52
theorem d120_53 : decode (mB 120) 53 = .ok (.iastore, 1) := by decide +kernel
theorem u120_53 {d : Nat} {ls : Lo} {st : List Va} {σ : Sg} {Q : Rs → Sg → Prop} {x z : Int} {g j : Nat} : Wx d 120 53 ls (vi x :: vi z :: vr g j :: st) σ Q ↔ isA g j 0 z ∧ Wx d 120 54 ls st (up σ g j z.toNat x) Q := u_iast d120_53
theorem d120_54 : decode (mB 120) 54 = .ok (.return_, 1) := by decide +kernel
theorem u120_54 {d : Nat} {ls : Lo} {σ : Sg} {Q : Rs → Sg → Prop} : Wx d 120 54 ls [] σ Q ↔ Q (.inl none) σ := u_vret d120_54 rfl
/-! 121: FiguredBassModel.mark(IIIZ)V -/
theorem d121_0 : decode (mB 121) 0 = .ok (.iload 4, 2) := by decide +kernel
theorem u121_0 {d : Nat} {ls : Lo} {st : List Va} {σ : Sg} {Q : Rs → Sg → Prop} : Wx d 121 0 ls st σ Q ↔ Li (lget ls 4) (fun z => Wx d 121 2 ls (vi z :: st) σ Q) := u_iload d121_0
theorem d121_2 : decode (mB 121) 2 = .ok (.ifCond .eq 43, 3) := by decide +kernel
theorem u121_2 {d : Nat} {ls : Lo} {st : List Va} {σ : Sg} {Q : Rs → Sg → Prop} {a : Int} (h : -2147483648 ≤ a ∧ a ≤ 2147483647) : Wx d 121 2 ls (vi a :: st) σ Q ↔ if a = 0 then Wx d 121 45 ls st σ Q else Wx d 121 5 ls st σ Q := u_ifeq d121_2 (by decide) h
theorem d121_5 : decode (mB 121) 5 = .ok (.aload_n 0, 1) := by decide +kernel
theorem u121_5 {d : Nat} {ls : Lo} {st : List Va} {σ : Sg} {Q : Rs → Sg → Prop} : Wx d 121 5 ls st σ Q ↔ Lr (lget ls 0) (fun z => Wx d 121 6 ls (.inr (.inl z) :: st) σ Q) := u_aload_n d121_5
theorem d121_6 : decode (mB 121) 6 = .ok (.getfield 93, 3) := by decide +kernel
theorem u121_6 {d : Nat} {ls : Lo} {st : List Va} {σ : Sg} {Q : Rs → Sg → Prop} {g j : Nat} : Wx d 121 6 ls (vr g j :: st) σ Q ↔ isO g j 7 ∧ Wx d 121 9 ls (fvv σ g j 37 :: st) σ Q := u_get (w := (7, 37)) d121_6 rfl
theorem d121_9 : decode (mB 121) 9 = .ok (.aload_n 0, 1) := by decide +kernel
theorem u121_9 {d : Nat} {ls : Lo} {st : List Va} {σ : Sg} {Q : Rs → Sg → Prop} : Wx d 121 9 ls st σ Q ↔ Lr (lget ls 0) (fun z => Wx d 121 10 ls (.inr (.inl z) :: st) σ Q) := u_aload_n d121_9
theorem d121_10 : decode (mB 121) 10 = .ok (.getfield 253, 3) := by decide +kernel
theorem u121_10 {d : Nat} {ls : Lo} {st : List Va} {σ : Sg} {Q : Rs → Sg → Prop} {g j : Nat} : Wx d 121 10 ls (vr g j :: st) σ Q ↔ isO g j 7 ∧ Wx d 121 13 ls (fvv σ g j 36 :: st) σ Q := u_get (w := (7, 36)) d121_10 rfl
theorem d121_13 : decode (mB 121) 13 = .ok (.iload_n 1, 1) := by decide +kernel
theorem u121_13 {d : Nat} {ls : Lo} {st : List Va} {σ : Sg} {Q : Rs → Sg → Prop} : Wx d 121 13 ls st σ Q ↔ Li (lget ls 1) (fun z => Wx d 121 14 ls (vi z :: st) σ Q) := u_iload_n d121_13
theorem d121_14 : decode (mB 121) 14 = .ok (.iastore, 1) := by decide +kernel
theorem u121_14 {d : Nat} {ls : Lo} {st : List Va} {σ : Sg} {Q : Rs → Sg → Prop} {x z : Int} {g j : Nat} : Wx d 121 14 ls (vi x :: vi z :: vr g j :: st) σ Q ↔ isA g j 0 z ∧ Wx d 121 15 ls st (up σ g j z.toNat x) Q := u_iast d121_14
theorem d121_15 : decode (mB 121) 15 = .ok (.aload_n 0, 1) := by decide +kernel
theorem u121_15 {d : Nat} {ls : Lo} {st : List Va} {σ : Sg} {Q : Rs → Sg → Prop} : Wx d 121 15 ls st σ Q ↔ Lr (lget ls 0) (fun z => Wx d 121 16 ls (.inr (.inl z) :: st) σ Q) := u_aload_n d121_15
theorem d121_16 : decode (mB 121) 16 = .ok (.getfield 96, 3) := by decide +kernel
theorem u121_16 {d : Nat} {ls : Lo} {st : List Va} {σ : Sg} {Q : Rs → Sg → Prop} {g j : Nat} : Wx d 121 16 ls (vr g j :: st) σ Q ↔ isO g j 7 ∧ Wx d 121 19 ls (fvv σ g j 38 :: st) σ Q := u_get (w := (7, 38)) d121_16 rfl
theorem d121_19 : decode (mB 121) 19 = .ok (.aload_n 0, 1) := by decide +kernel
theorem u121_19 {d : Nat} {ls : Lo} {st : List Va} {σ : Sg} {Q : Rs → Sg → Prop} : Wx d 121 19 ls st σ Q ↔ Lr (lget ls 0) (fun z => Wx d 121 20 ls (.inr (.inl z) :: st) σ Q) := u_aload_n d121_19
theorem d121_20 : decode (mB 121) 20 = .ok (.getfield 253, 3) := by decide +kernel
theorem u121_20 {d : Nat} {ls : Lo} {st : List Va} {σ : Sg} {Q : Rs → Sg → Prop} {g j : Nat} : Wx d 121 20 ls (vr g j :: st) σ Q ↔ isO g j 7 ∧ Wx d 121 23 ls (fvv σ g j 36 :: st) σ Q := u_get (w := (7, 36)) d121_20 rfl
theorem d121_23 : decode (mB 121) 23 = .ok (.iload_n 2, 1) := by decide +kernel
theorem u121_23 {d : Nat} {ls : Lo} {st : List Va} {σ : Sg} {Q : Rs → Sg → Prop} : Wx d 121 23 ls st σ Q ↔ Li (lget ls 2) (fun z => Wx d 121 24 ls (vi z :: st) σ Q) := u_iload_n d121_23
theorem d121_24 : decode (mB 121) 24 = .ok (.iastore, 1) := by decide +kernel
theorem u121_24 {d : Nat} {ls : Lo} {st : List Va} {σ : Sg} {Q : Rs → Sg → Prop} {x z : Int} {g j : Nat} : Wx d 121 24 ls (vi x :: vi z :: vr g j :: st) σ Q ↔ isA g j 0 z ∧ Wx d 121 25 ls st (up σ g j z.toNat x) Q := u_iast d121_24
theorem d121_25 : decode (mB 121) 25 = .ok (.aload_n 0, 1) := by decide +kernel
theorem u121_25 {d : Nat} {ls : Lo} {st : List Va} {σ : Sg} {Q : Rs → Sg → Prop} : Wx d 121 25 ls st σ Q ↔ Lr (lget ls 0) (fun z => Wx d 121 26 ls (.inr (.inl z) :: st) σ Q) := u_aload_n d121_25
theorem d121_26 : decode (mB 121) 26 = .ok (.getfield 99, 3) := by decide +kernel
theorem u121_26 {d : Nat} {ls : Lo} {st : List Va} {σ : Sg} {Q : Rs → Sg → Prop} {g j : Nat} : Wx d 121 26 ls (vr g j :: st) σ Q ↔ isO g j 7 ∧ Wx d 121 29 ls (fvv σ g j 39 :: st) σ Q := u_get (w := (7, 39)) d121_26 rfl
theorem d121_29 : decode (mB 121) 29 = .ok (.aload_n 0, 1) := by decide +kernel
theorem u121_29 {d : Nat} {ls : Lo} {st : List Va} {σ : Sg} {Q : Rs → Sg → Prop} : Wx d 121 29 ls st σ Q ↔ Lr (lget ls 0) (fun z => Wx d 121 30 ls (.inr (.inl z) :: st) σ Q) := u_aload_n d121_29
theorem d121_30 : decode (mB 121) 30 = .ok (.getfield 253, 3) := by decide +kernel
theorem u121_30 {d : Nat} {ls : Lo} {st : List Va} {σ : Sg} {Q : Rs → Sg → Prop} {g j : Nat} : Wx d 121 30 ls (vr g j :: st) σ Q ↔ isO g j 7 ∧ Wx d 121 33 ls (fvv σ g j 36 :: st) σ Q := u_get (w := (7, 36)) d121_30 rfl
theorem d121_33 : decode (mB 121) 33 = .ok (.iload_n 3, 1) := by decide +kernel
theorem u121_33 {d : Nat} {ls : Lo} {st : List Va} {σ : Sg} {Q : Rs → Sg → Prop} : Wx d 121 33 ls st σ Q ↔ Li (lget ls 3) (fun z => Wx d 121 34 ls (vi z :: st) σ Q) := u_iload_n d121_33
theorem d121_34 : decode (mB 121) 34 = .ok (.iastore, 1) := by decide +kernel
theorem u121_34 {d : Nat} {ls : Lo} {st : List Va} {σ : Sg} {Q : Rs → Sg → Prop} {x z : Int} {g j : Nat} : Wx d 121 34 ls (vi x :: vi z :: vr g j :: st) σ Q ↔ isA g j 0 z ∧ Wx d 121 35 ls st (up σ g j z.toNat x) Q := u_iast d121_34
theorem d121_35 : decode (mB 121) 35 = .ok (.aload_n 0, 1) := by decide +kernel
theorem u121_35 {d : Nat} {ls : Lo} {st : List Va} {σ : Sg} {Q : Rs → Sg → Prop} : Wx d 121 35 ls st σ Q ↔ Lr (lget ls 0) (fun z => Wx d 121 36 ls (.inr (.inl z) :: st) σ Q) := u_aload_n d121_35
theorem d121_36 : decode (mB 121) 36 = .ok (.dup, 1) := by decide +kernel
theorem u121_36i {d : Nat} {ls : Lo} {st : List Va} {σ : Sg} {Q : Rs → Sg → Prop} {a : Int} : Wx d 121 36 ls (vi a :: st) σ Q ↔ Wx d 121 37 ls (vi a :: vi a :: st) σ Q := u_dupi d121_36
theorem u121_36r {d : Nat} {ls : Lo} {st : List Va} {σ : Sg} {Q : Rs → Sg → Prop} {g j : Nat} : Wx d 121 36 ls (vr g j :: st) σ Q ↔ Wx d 121 37 ls (vr g j :: vr g j :: st) σ Q := u_dupr d121_36
theorem d121_37 : decode (mB 121) 37 = .ok (.getfield 253, 3) := by decide +kernel
theorem u121_37 {d : Nat} {ls : Lo} {st : List Va} {σ : Sg} {Q : Rs → Sg → Prop} {g j : Nat} : Wx d 121 37 ls (vr g j :: st) σ Q ↔ isO g j 7 ∧ Wx d 121 40 ls (fvv σ g j 36 :: st) σ Q := u_get (w := (7, 36)) d121_37 rfl
theorem d121_40 : decode (mB 121) 40 = .ok (.iconst 1, 1) := by decide +kernel
theorem u121_40 {d : Nat} {ls : Lo} {st : List Va} {σ : Sg} {Q : Rs → Sg → Prop} : Wx d 121 40 ls st σ Q ↔ Wx d 121 41 ls (vi 1 :: st) σ Q := u_iconst d121_40
theorem d121_41 : decode (mB 121) 41 = .ok (.iadd, 1) := by decide +kernel
theorem u121_41 {d : Nat} {ls : Lo} {st : List Va} {σ : Sg} {Q : Rs → Sg → Prop} {a b : Int} : Wx d 121 41 ls (vi b :: vi a :: st) σ Q ↔ Wx d 121 42 ls (vi (a + b) :: st) σ Q := u_iadd d121_41
theorem d121_42 : decode (mB 121) 42 = .ok (.putfield 253, 3) := by decide +kernel
theorem u121_42 {d : Nat} {ls : Lo} {st : List Va} {σ : Sg} {Q : Rs → Sg → Prop} {z : Int} {g j : Nat} : Wx d 121 42 ls (vi z :: vr g j :: st) σ Q ↔ (isO g j 7 ∧ rf g j 36 = none) ∧ Wx d 121 45 ls st (up σ g j 36 z) Q := u_put (w := (7, 36)) d121_42 rfl rfl rfl
theorem d121_45 : decode (mB 121) 45 = .ok (.return_, 1) := by decide +kernel
theorem u121_45 {d : Nat} {ls : Lo} {σ : Sg} {Q : Rs → Sg → Prop} : Wx d 121 45 ls [] σ Q ↔ Q (.inl none) σ := u_vret d121_45 rfl
/-! 122: FiguredBassModel.loadPupil(I)V -/
theorem d122_0 : decode (mB 122) 0 = .ok (.iconst 0, 1) := by decide +kernel
theorem u122_0 {d : Nat} {ls : Lo} {st : List Va} {σ : Sg} {Q : Rs → Sg → Prop} : Wx d 122 0 ls st σ Q ↔ Wx d 122 1 ls (vi 0 :: st) σ Q := u_iconst d122_0
theorem d122_1 : decode (mB 122) 1 = .ok (.istore_n 2, 1) := by decide +kernel
theorem u122_1 {d : Nat} {ls : Lo} {st : List Va} {σ : Sg} {Q : Rs → Sg → Prop} {z : Int} : Wx d 122 1 ls (vi z :: st) σ Q ↔ Wx d 122 2 (lset ls 2 (vi z)) st σ Q := u_istore_n d122_1 (by decide)
theorem d122_2 : decode (mB 122) 2 = .ok (.iload_n 2, 1) := by decide +kernel
theorem u122_2 {d : Nat} {ls : Lo} {st : List Va} {σ : Sg} {Q : Rs → Sg → Prop} : Wx d 122 2 ls st σ Q ↔ Li (lget ls 2) (fun z => Wx d 122 3 ls (vi z :: st) σ Q) := u_iload_n d122_2
theorem d122_3 : decode (mB 122) 3 = .ok (.iconst 3, 1) := by decide +kernel
theorem u122_3 {d : Nat} {ls : Lo} {st : List Va} {σ : Sg} {Q : Rs → Sg → Prop} : Wx d 122 3 ls st σ Q ↔ Wx d 122 4 ls (vi 3 :: st) σ Q := u_iconst d122_3
theorem d122_4 : decode (mB 122) 4 = .ok (.if_icmp .ge 57, 3) := by decide +kernel
theorem u122_4 {d : Nat} {ls : Lo} {st : List Va} {σ : Sg} {Q : Rs → Sg → Prop} {a b : Int} (h : -2147483648 ≤ a ∧ a ≤ 2147483647) (h2 : -2147483648 ≤ b ∧ b ≤ 2147483647) : Wx d 122 4 ls (vi b :: vi a :: st) σ Q ↔ if b ≤ a then Wx d 122 61 ls st σ Q else Wx d 122 7 ls st σ Q := u_icge d122_4 (by decide) h h2
theorem d122_7 : decode (mB 122) 7 = .ok (.aload_n 0, 1) := by decide +kernel
theorem u122_7 {d : Nat} {ls : Lo} {st : List Va} {σ : Sg} {Q : Rs → Sg → Prop} : Wx d 122 7 ls st σ Q ↔ Lr (lget ls 0) (fun z => Wx d 122 8 ls (.inr (.inl z) :: st) σ Q) := u_aload_n d122_7
theorem d122_8 : decode (mB 122) 8 = .ok (.getfield 102, 3) := by decide +kernel
theorem u122_8 {d : Nat} {ls : Lo} {st : List Va} {σ : Sg} {Q : Rs → Sg → Prop} {g j : Nat} : Wx d 122 8 ls (vr g j :: st) σ Q ↔ isO g j 7 ∧ Wx d 122 11 ls (fvv σ g j 40 :: st) σ Q := u_get (w := (7, 40)) d122_8 rfl
theorem d122_11 : decode (mB 122) 11 = .ok (.iload_n 2, 1) := by decide +kernel
theorem u122_11 {d : Nat} {ls : Lo} {st : List Va} {σ : Sg} {Q : Rs → Sg → Prop} : Wx d 122 11 ls st σ Q ↔ Li (lget ls 2) (fun z => Wx d 122 12 ls (vi z :: st) σ Q) := u_iload_n d122_11
theorem d122_12 : decode (mB 122) 12 = .ok (.aload_n 0, 1) := by decide +kernel
theorem u122_12 {d : Nat} {ls : Lo} {st : List Va} {σ : Sg} {Q : Rs → Sg → Prop} : Wx d 122 12 ls st σ Q ↔ Lr (lget ls 0) (fun z => Wx d 122 13 ls (.inr (.inl z) :: st) σ Q) := u_aload_n d122_12
theorem d122_13 : decode (mB 122) 13 = .ok (.getfield 90, 3) := by decide +kernel
theorem u122_13 {d : Nat} {ls : Lo} {st : List Va} {σ : Sg} {Q : Rs → Sg → Prop} {g j : Nat} : Wx d 122 13 ls (vr g j :: st) σ Q ↔ isO g j 7 ∧ Wx d 122 16 ls (fvv σ g j 35 :: st) σ Q := u_get (w := (7, 35)) d122_13 rfl
theorem d122_16 : decode (mB 122) 16 = .ok (.iconst 3, 1) := by decide +kernel
theorem u122_16 {d : Nat} {ls : Lo} {st : List Va} {σ : Sg} {Q : Rs → Sg → Prop} : Wx d 122 16 ls st σ Q ↔ Wx d 122 17 ls (vi 3 :: st) σ Q := u_iconst d122_16
theorem d122_17 : decode (mB 122) 17 = .ok (.iload_n 1, 1) := by decide +kernel
theorem u122_17 {d : Nat} {ls : Lo} {st : List Va} {σ : Sg} {Q : Rs → Sg → Prop} : Wx d 122 17 ls st σ Q ↔ Li (lget ls 1) (fun z => Wx d 122 18 ls (vi z :: st) σ Q) := u_iload_n d122_17
theorem d122_18 : decode (mB 122) 18 = .ok (.imul, 1) := by decide +kernel
theorem u122_18 {d : Nat} {ls : Lo} {st : List Va} {σ : Sg} {Q : Rs → Sg → Prop} {a b : Int} : Wx d 122 18 ls (vi b :: vi a :: st) σ Q ↔ Wx d 122 19 ls (vi (a * b) :: st) σ Q := u_imul d122_18
theorem d122_19 : decode (mB 122) 19 = .ok (.iload_n 2, 1) := by decide +kernel
theorem u122_19 {d : Nat} {ls : Lo} {st : List Va} {σ : Sg} {Q : Rs → Sg → Prop} : Wx d 122 19 ls st σ Q ↔ Li (lget ls 2) (fun z => Wx d 122 20 ls (vi z :: st) σ Q) := u_iload_n d122_19
theorem d122_20 : decode (mB 122) 20 = .ok (.iadd, 1) := by decide +kernel
theorem u122_20 {d : Nat} {ls : Lo} {st : List Va} {σ : Sg} {Q : Rs → Sg → Prop} {a b : Int} : Wx d 122 20 ls (vi b :: vi a :: st) σ Q ↔ Wx d 122 21 ls (vi (a + b) :: st) σ Q := u_iadd d122_20
theorem d122_21 : decode (mB 122) 21 = .ok (.iaload, 1) := by decide +kernel
theorem u122_21 {d : Nat} {ls : Lo} {st : List Va} {σ : Sg} {Q : Rs → Sg → Prop} {z : Int} {g j : Nat} : Wx d 122 21 ls (vi z :: vr g j :: st) σ Q ↔ On (ial σ g j z) (fun x => Wx d 122 22 ls (vi x :: st) σ Q) := u_iald d122_21
theorem d122_22 : decode (mB 122) 22 = .ok (.iastore, 1) := by decide +kernel
theorem u122_22 {d : Nat} {ls : Lo} {st : List Va} {σ : Sg} {Q : Rs → Sg → Prop} {x z : Int} {g j : Nat} : Wx d 122 22 ls (vi x :: vi z :: vr g j :: st) σ Q ↔ isA g j 0 z ∧ Wx d 122 23 ls st (up σ g j z.toNat x) Q := u_iast d122_22
theorem d122_23 : decode (mB 122) 23 = .ok (.aload_n 0, 1) := by decide +kernel
theorem u122_23 {d : Nat} {ls : Lo} {st : List Va} {σ : Sg} {Q : Rs → Sg → Prop} : Wx d 122 23 ls st σ Q ↔ Lr (lget ls 0) (fun z => Wx d 122 24 ls (.inr (.inl z) :: st) σ Q) := u_aload_n d122_23
theorem d122_24 : decode (mB 122) 24 = .ok (.getfield 105, 3) := by decide +kernel
theorem u122_24 {d : Nat} {ls : Lo} {st : List Va} {σ : Sg} {Q : Rs → Sg → Prop} {g j : Nat} : Wx d 122 24 ls (vr g j :: st) σ Q ↔ isO g j 7 ∧ Wx d 122 27 ls (fvv σ g j 41 :: st) σ Q := u_get (w := (7, 41)) d122_24 rfl
theorem d122_27 : decode (mB 122) 27 = .ok (.iload_n 2, 1) := by decide +kernel
theorem u122_27 {d : Nat} {ls : Lo} {st : List Va} {σ : Sg} {Q : Rs → Sg → Prop} : Wx d 122 27 ls st σ Q ↔ Li (lget ls 2) (fun z => Wx d 122 28 ls (vi z :: st) σ Q) := u_iload_n d122_27
theorem d122_28 : decode (mB 122) 28 = .ok (.iload_n 1, 1) := by decide +kernel
theorem u122_28 {d : Nat} {ls : Lo} {st : List Va} {σ : Sg} {Q : Rs → Sg → Prop} : Wx d 122 28 ls st σ Q ↔ Li (lget ls 1) (fun z => Wx d 122 29 ls (vi z :: st) σ Q) := u_iload_n d122_28
theorem d122_29 : decode (mB 122) 29 = .ok (.aload_n 0, 1) := by decide +kernel
theorem u122_29 {d : Nat} {ls : Lo} {st : List Va} {σ : Sg} {Q : Rs → Sg → Prop} : Wx d 122 29 ls st σ Q ↔ Lr (lget ls 0) (fun z => Wx d 122 30 ls (.inr (.inl z) :: st) σ Q) := u_aload_n d122_29
theorem d122_30 : decode (mB 122) 30 = .ok (.getfield 22, 3) := by decide +kernel
theorem u122_30 {d : Nat} {ls : Lo} {st : List Va} {σ : Sg} {Q : Rs → Sg → Prop} {g j : Nat} : Wx d 122 30 ls (vr g j :: st) σ Q ↔ isO g j 7 ∧ Wx d 122 33 ls (fvv σ g j 7 :: st) σ Q := u_get (w := (7, 7)) d122_30 rfl
theorem d122_33 : decode (mB 122) 33 = .ok (.iconst 1, 1) := by decide +kernel
theorem u122_33 {d : Nat} {ls : Lo} {st : List Va} {σ : Sg} {Q : Rs → Sg → Prop} : Wx d 122 33 ls st σ Q ↔ Wx d 122 34 ls (vi 1 :: st) σ Q := u_iconst d122_33
theorem d122_34 : decode (mB 122) 34 = .ok (.isub, 1) := by decide +kernel
theorem u122_34 {d : Nat} {ls : Lo} {st : List Va} {σ : Sg} {Q : Rs → Sg → Prop} {a b : Int} : Wx d 122 34 ls (vi b :: vi a :: st) σ Q ↔ Wx d 122 35 ls (vi (a - b) :: st) σ Q := u_isub d122_34
theorem d122_35 : decode (mB 122) 35 = .ok (.if_icmp .ge 18, 3) := by decide +kernel
theorem u122_35 {d : Nat} {ls : Lo} {st : List Va} {σ : Sg} {Q : Rs → Sg → Prop} {a b : Int} (h : -2147483648 ≤ a ∧ a ≤ 2147483647) (h2 : -2147483648 ≤ b ∧ b ≤ 2147483647) : Wx d 122 35 ls (vi b :: vi a :: st) σ Q ↔ if b ≤ a then Wx d 122 53 ls st σ Q else Wx d 122 38 ls st σ Q := u_icge d122_35 (by decide) h h2
theorem d122_38 : decode (mB 122) 38 = .ok (.aload_n 0, 1) := by decide +kernel
theorem u122_38 {d : Nat} {ls : Lo} {st : List Va} {σ : Sg} {Q : Rs → Sg → Prop} : Wx d 122 38 ls st σ Q ↔ Lr (lget ls 0) (fun z => Wx d 122 39 ls (.inr (.inl z) :: st) σ Q) := u_aload_n d122_38
theorem d122_39 : decode (mB 122) 39 = .ok (.getfield 90, 3) := by decide +kernel
theorem u122_39 {d : Nat} {ls : Lo} {st : List Va} {σ : Sg} {Q : Rs → Sg → Prop} {g j : Nat} : Wx d 122 39 ls (vr g j :: st) σ Q ↔ isO g j 7 ∧ Wx d 122 42 ls (fvv σ g j 35 :: st) σ Q := u_get (w := (7, 35)) d122_39 rfl
theorem d122_42 : decode (mB 122) 42 = .ok (.iconst 3, 1) := by decide +kernel
theorem u122_42 {d : Nat} {ls : Lo} {st : List Va} {σ : Sg} {Q : Rs → Sg → Prop} : Wx d 122 42 ls st σ Q ↔ Wx d 122 43 ls (vi 3 :: st) σ Q := u_iconst d122_42
theorem d122_43 : decode (mB 122) 43 = .ok (.iload_n 1, 1) := by decide +kernel
theorem u122_43 {d : Nat} {ls : Lo} {st : List Va} {σ : Sg} {Q : Rs → Sg → Prop} : Wx d 122 43 ls st σ Q ↔ Li (lget ls 1) (fun z => Wx d 122 44 ls (vi z :: st) σ Q) := u_iload_n d122_43
theorem d122_44 : decode (mB 122) 44 = .ok (.imul, 1) := by decide +kernel
theorem u122_44 {d : Nat} {ls : Lo} {st : List Va} {σ : Sg} {Q : Rs → Sg → Prop} {a b : Int} : Wx d 122 44 ls (vi b :: vi a :: st) σ Q ↔ Wx d 122 45 ls (vi (a * b) :: st) σ Q := u_imul d122_44
theorem d122_45 : decode (mB 122) 45 = .ok (.iconst 3, 1) := by decide +kernel
theorem u122_45 {d : Nat} {ls : Lo} {st : List Va} {σ : Sg} {Q : Rs → Sg → Prop} : Wx d 122 45 ls st σ Q ↔ Wx d 122 46 ls (vi 3 :: st) σ Q := u_iconst d122_45
theorem d122_46 : decode (mB 122) 46 = .ok (.iadd, 1) := by decide +kernel
theorem u122_46 {d : Nat} {ls : Lo} {st : List Va} {σ : Sg} {Q : Rs → Sg → Prop} {a b : Int} : Wx d 122 46 ls (vi b :: vi a :: st) σ Q ↔ Wx d 122 47 ls (vi (a + b) :: st) σ Q := u_iadd d122_46
theorem d122_47 : decode (mB 122) 47 = .ok (.iload_n 2, 1) := by decide +kernel
theorem u122_47 {d : Nat} {ls : Lo} {st : List Va} {σ : Sg} {Q : Rs → Sg → Prop} : Wx d 122 47 ls st σ Q ↔ Li (lget ls 2) (fun z => Wx d 122 48 ls (vi z :: st) σ Q) := u_iload_n d122_47
theorem d122_48 : decode (mB 122) 48 = .ok (.iadd, 1) := by decide +kernel
theorem u122_48 {d : Nat} {ls : Lo} {st : List Va} {σ : Sg} {Q : Rs → Sg → Prop} {a b : Int} : Wx d 122 48 ls (vi b :: vi a :: st) σ Q ↔ Wx d 122 49 ls (vi (a + b) :: st) σ Q := u_iadd d122_48
theorem d122_49 : decode (mB 122) 49 = .ok (.iaload, 1) := by decide +kernel
theorem u122_49 {d : Nat} {ls : Lo} {st : List Va} {σ : Sg} {Q : Rs → Sg → Prop} {z : Int} {g j : Nat} : Wx d 122 49 ls (vi z :: vr g j :: st) σ Q ↔ On (ial σ g j z) (fun x => Wx d 122 50 ls (vi x :: st) σ Q) := u_iald d122_49
theorem d122_50 : decode (mB 122) 50 = .ok (.goto 4, 3) := by decide +kernel
theorem u122_50 {d : Nat} {ls : Lo} {st : List Va} {σ : Sg} {Q : Rs → Sg → Prop} : Wx d 122 50 ls st σ Q ↔ Wx d 122 54 ls st σ Q := u_goto d122_50 (by decide)
theorem d122_53 : decode (mB 122) 53 = .ok (.iconst 0, 1) := by decide +kernel
theorem u122_53 {d : Nat} {ls : Lo} {st : List Va} {σ : Sg} {Q : Rs → Sg → Prop} : Wx d 122 53 ls st σ Q ↔ Wx d 122 54 ls (vi 0 :: st) σ Q := u_iconst d122_53
theorem d122_54 : decode (mB 122) 54 = .ok (.iastore, 1) := by decide +kernel
theorem u122_54 {d : Nat} {ls : Lo} {st : List Va} {σ : Sg} {Q : Rs → Sg → Prop} {x z : Int} {g j : Nat} : Wx d 122 54 ls (vi x :: vi z :: vr g j :: st) σ Q ↔ isA g j 0 z ∧ Wx d 122 55 ls st (up σ g j z.toNat x) Q := u_iast d122_54
theorem d122_55 : decode (mB 122) 55 = .ok (.iinc 2 1, 3) := by decide +kernel
theorem u122_55 {d : Nat} {ls : Lo} {st : List Va} {σ : Sg} {Q : Rs → Sg → Prop} : Wx d 122 55 ls st σ Q ↔ Li (lget ls 2) (fun z => Wx d 122 58 (lset ls 2 (vi (z + 1))) st σ Q) := u_iinc d122_55 (by decide)
theorem d122_58 : decode (mB 122) 58 = .ok (.goto (-56), 3) := by decide +kernel
theorem u122_58 {d : Nat} {ls : Lo} {st : List Va} {σ : Sg} {Q : Rs → Sg → Prop} : Wx d 122 58 ls st σ Q ↔ Wx d 122 2 ls st σ Q := u_goto d122_58 (by decide)
theorem d122_61 : decode (mB 122) 61 = .ok (.aload_n 0, 1) := by decide +kernel
theorem u122_61 {d : Nat} {ls : Lo} {st : List Va} {σ : Sg} {Q : Rs → Sg → Prop} : Wx d 122 61 ls st σ Q ↔ Lr (lget ls 0) (fun z => Wx d 122 62 ls (.inr (.inl z) :: st) σ Q) := u_aload_n d122_61
theorem d122_62 : decode (mB 122) 62 = .ok (.getfield 102, 3) := by decide +kernel
theorem u122_62 {d : Nat} {ls : Lo} {st : List Va} {σ : Sg} {Q : Rs → Sg → Prop} {g j : Nat} : Wx d 122 62 ls (vr g j :: st) σ Q ↔ isO g j 7 ∧ Wx d 122 65 ls (fvv σ g j 40 :: st) σ Q := u_get (w := (7, 40)) d122_62 rfl
theorem d122_65 : decode (mB 122) 65 = .ok (.iconst 3, 1) := by decide +kernel
theorem u122_65 {d : Nat} {ls : Lo} {st : List Va} {σ : Sg} {Q : Rs → Sg → Prop} : Wx d 122 65 ls st σ Q ↔ Wx d 122 66 ls (vi 3 :: st) σ Q := u_iconst d122_65
theorem d122_66 : decode (mB 122) 66 = .ok (.aload_n 0, 1) := by decide +kernel
theorem u122_66 {d : Nat} {ls : Lo} {st : List Va} {σ : Sg} {Q : Rs → Sg → Prop} : Wx d 122 66 ls st σ Q ↔ Lr (lget ls 0) (fun z => Wx d 122 67 ls (.inr (.inl z) :: st) σ Q) := u_aload_n d122_66
theorem d122_67 : decode (mB 122) 67 = .ok (.getfield 26, 3) := by decide +kernel
theorem u122_67 {d : Nat} {ls : Lo} {st : List Va} {σ : Sg} {Q : Rs → Sg → Prop} {g j : Nat} : Wx d 122 67 ls (vr g j :: st) σ Q ↔ isO g j 7 ∧ Wx d 122 70 ls (fvv σ g j 8 :: st) σ Q := u_get (w := (7, 8)) d122_67 rfl
theorem d122_70 : decode (mB 122) 70 = .ok (.iload_n 1, 1) := by decide +kernel
theorem u122_70 {d : Nat} {ls : Lo} {st : List Va} {σ : Sg} {Q : Rs → Sg → Prop} : Wx d 122 70 ls st σ Q ↔ Li (lget ls 1) (fun z => Wx d 122 71 ls (vi z :: st) σ Q) := u_iload_n d122_70
theorem d122_71 : decode (mB 122) 71 = .ok (.iaload, 1) := by decide +kernel
theorem u122_71 {d : Nat} {ls : Lo} {st : List Va} {σ : Sg} {Q : Rs → Sg → Prop} {z : Int} {g j : Nat} : Wx d 122 71 ls (vi z :: vr g j :: st) σ Q ↔ On (ial σ g j z) (fun x => Wx d 122 72 ls (vi x :: st) σ Q) := u_iald d122_71
theorem d122_72 : decode (mB 122) 72 = .ok (.iastore, 1) := by decide +kernel
theorem u122_72 {d : Nat} {ls : Lo} {st : List Va} {σ : Sg} {Q : Rs → Sg → Prop} {x z : Int} {g j : Nat} : Wx d 122 72 ls (vi x :: vi z :: vr g j :: st) σ Q ↔ isA g j 0 z ∧ Wx d 122 73 ls st (up σ g j z.toNat x) Q := u_iast d122_72
theorem d122_73 : decode (mB 122) 73 = .ok (.aload_n 0, 1) := by decide +kernel
theorem u122_73 {d : Nat} {ls : Lo} {st : List Va} {σ : Sg} {Q : Rs → Sg → Prop} : Wx d 122 73 ls st σ Q ↔ Lr (lget ls 0) (fun z => Wx d 122 74 ls (.inr (.inl z) :: st) σ Q) := u_aload_n d122_73
theorem d122_74 : decode (mB 122) 74 = .ok (.getfield 105, 3) := by decide +kernel
theorem u122_74 {d : Nat} {ls : Lo} {st : List Va} {σ : Sg} {Q : Rs → Sg → Prop} {g j : Nat} : Wx d 122 74 ls (vr g j :: st) σ Q ↔ isO g j 7 ∧ Wx d 122 77 ls (fvv σ g j 41 :: st) σ Q := u_get (w := (7, 41)) d122_74 rfl
theorem d122_77 : decode (mB 122) 77 = .ok (.iconst 3, 1) := by decide +kernel
theorem u122_77 {d : Nat} {ls : Lo} {st : List Va} {σ : Sg} {Q : Rs → Sg → Prop} : Wx d 122 77 ls st σ Q ↔ Wx d 122 78 ls (vi 3 :: st) σ Q := u_iconst d122_77
theorem d122_78 : decode (mB 122) 78 = .ok (.iload_n 1, 1) := by decide +kernel
theorem u122_78 {d : Nat} {ls : Lo} {st : List Va} {σ : Sg} {Q : Rs → Sg → Prop} : Wx d 122 78 ls st σ Q ↔ Li (lget ls 1) (fun z => Wx d 122 79 ls (vi z :: st) σ Q) := u_iload_n d122_78
theorem d122_79 : decode (mB 122) 79 = .ok (.aload_n 0, 1) := by decide +kernel
theorem u122_79 {d : Nat} {ls : Lo} {st : List Va} {σ : Sg} {Q : Rs → Sg → Prop} : Wx d 122 79 ls st σ Q ↔ Lr (lget ls 0) (fun z => Wx d 122 80 ls (.inr (.inl z) :: st) σ Q) := u_aload_n d122_79
theorem d122_80 : decode (mB 122) 80 = .ok (.getfield 22, 3) := by decide +kernel
theorem u122_80 {d : Nat} {ls : Lo} {st : List Va} {σ : Sg} {Q : Rs → Sg → Prop} {g j : Nat} : Wx d 122 80 ls (vr g j :: st) σ Q ↔ isO g j 7 ∧ Wx d 122 83 ls (fvv σ g j 7 :: st) σ Q := u_get (w := (7, 7)) d122_80 rfl
theorem d122_83 : decode (mB 122) 83 = .ok (.iconst 1, 1) := by decide +kernel
theorem u122_83 {d : Nat} {ls : Lo} {st : List Va} {σ : Sg} {Q : Rs → Sg → Prop} : Wx d 122 83 ls st σ Q ↔ Wx d 122 84 ls (vi 1 :: st) σ Q := u_iconst d122_83
theorem d122_84 : decode (mB 122) 84 = .ok (.isub, 1) := by decide +kernel
theorem u122_84 {d : Nat} {ls : Lo} {st : List Va} {σ : Sg} {Q : Rs → Sg → Prop} {a b : Int} : Wx d 122 84 ls (vi b :: vi a :: st) σ Q ↔ Wx d 122 85 ls (vi (a - b) :: st) σ Q := u_isub d122_84
theorem d122_85 : decode (mB 122) 85 = .ok (.if_icmp .ge 14, 3) := by decide +kernel
theorem u122_85 {d : Nat} {ls : Lo} {st : List Va} {σ : Sg} {Q : Rs → Sg → Prop} {a b : Int} (h : -2147483648 ≤ a ∧ a ≤ 2147483647) (h2 : -2147483648 ≤ b ∧ b ≤ 2147483647) : Wx d 122 85 ls (vi b :: vi a :: st) σ Q ↔ if b ≤ a then Wx d 122 99 ls st σ Q else Wx d 122 88 ls st σ Q := u_icge d122_85 (by decide) h h2
theorem d122_88 : decode (mB 122) 88 = .ok (.aload_n 0, 1) := by decide +kernel
theorem u122_88 {d : Nat} {ls : Lo} {st : List Va} {σ : Sg} {Q : Rs → Sg → Prop} : Wx d 122 88 ls st σ Q ↔ Lr (lget ls 0) (fun z => Wx d 122 89 ls (.inr (.inl z) :: st) σ Q) := u_aload_n d122_88
theorem d122_89 : decode (mB 122) 89 = .ok (.getfield 26, 3) := by decide +kernel
theorem u122_89 {d : Nat} {ls : Lo} {st : List Va} {σ : Sg} {Q : Rs → Sg → Prop} {g j : Nat} : Wx d 122 89 ls (vr g j :: st) σ Q ↔ isO g j 7 ∧ Wx d 122 92 ls (fvv σ g j 8 :: st) σ Q := u_get (w := (7, 8)) d122_89 rfl
theorem d122_92 : decode (mB 122) 92 = .ok (.iload_n 1, 1) := by decide +kernel
theorem u122_92 {d : Nat} {ls : Lo} {st : List Va} {σ : Sg} {Q : Rs → Sg → Prop} : Wx d 122 92 ls st σ Q ↔ Li (lget ls 1) (fun z => Wx d 122 93 ls (vi z :: st) σ Q) := u_iload_n d122_92
theorem d122_93 : decode (mB 122) 93 = .ok (.iconst 1, 1) := by decide +kernel
theorem u122_93 {d : Nat} {ls : Lo} {st : List Va} {σ : Sg} {Q : Rs → Sg → Prop} : Wx d 122 93 ls st σ Q ↔ Wx d 122 94 ls (vi 1 :: st) σ Q := u_iconst d122_93
theorem d122_94 : decode (mB 122) 94 = .ok (.iadd, 1) := by decide +kernel
theorem u122_94 {d : Nat} {ls : Lo} {st : List Va} {σ : Sg} {Q : Rs → Sg → Prop} {a b : Int} : Wx d 122 94 ls (vi b :: vi a :: st) σ Q ↔ Wx d 122 95 ls (vi (a + b) :: st) σ Q := u_iadd d122_94
theorem d122_95 : decode (mB 122) 95 = .ok (.iaload, 1) := by decide +kernel
theorem u122_95 {d : Nat} {ls : Lo} {st : List Va} {σ : Sg} {Q : Rs → Sg → Prop} {z : Int} {g j : Nat} : Wx d 122 95 ls (vi z :: vr g j :: st) σ Q ↔ On (ial σ g j z) (fun x => Wx d 122 96 ls (vi x :: st) σ Q) := u_iald d122_95
theorem d122_96 : decode (mB 122) 96 = .ok (.goto 4, 3) := by decide +kernel
theorem u122_96 {d : Nat} {ls : Lo} {st : List Va} {σ : Sg} {Q : Rs → Sg → Prop} : Wx d 122 96 ls st σ Q ↔ Wx d 122 100 ls st σ Q := u_goto d122_96 (by decide)
theorem d122_99 : decode (mB 122) 99 = .ok (.iconst 0, 1) := by decide +kernel
theorem u122_99 {d : Nat} {ls : Lo} {st : List Va} {σ : Sg} {Q : Rs → Sg → Prop} : Wx d 122 99 ls st σ Q ↔ Wx d 122 100 ls (vi 0 :: st) σ Q := u_iconst d122_99
theorem d122_100 : decode (mB 122) 100 = .ok (.iastore, 1) := by decide +kernel
theorem u122_100 {d : Nat} {ls : Lo} {st : List Va} {σ : Sg} {Q : Rs → Sg → Prop} {x z : Int} {g j : Nat} : Wx d 122 100 ls (vi x :: vi z :: vr g j :: st) σ Q ↔ isA g j 0 z ∧ Wx d 122 101 ls st (up σ g j z.toNat x) Q := u_iast d122_100
theorem d122_101 : decode (mB 122) 101 = .ok (.return_, 1) := by decide +kernel
theorem u122_101 {d : Nat} {ls : Lo} {σ : Sg} {Q : Rs → Sg → Prop} : Wx d 122 101 ls [] σ Q ↔ Q (.inl none) σ := u_vret d122_101 rfl
/-! 123: FiguredBassModel.markOne(I)V -/
theorem d123_0 : decode (mB 123) 0 = .ok (.iconst 0, 1) := by decide +kernel
theorem u123_0 {d : Nat} {ls : Lo} {st : List Va} {σ : Sg} {Q : Rs → Sg → Prop} : Wx d 123 0 ls st σ Q ↔ Wx d 123 1 ls (vi 0 :: st) σ Q := u_iconst d123_0
theorem d123_1 : decode (mB 123) 1 = .ok (.istore_n 2, 1) := by decide +kernel
theorem u123_1 {d : Nat} {ls : Lo} {st : List Va} {σ : Sg} {Q : Rs → Sg → Prop} {z : Int} : Wx d 123 1 ls (vi z :: st) σ Q ↔ Wx d 123 2 (lset ls 2 (vi z)) st σ Q := u_istore_n d123_1 (by decide)
theorem d123_2 : decode (mB 123) 2 = .ok (.iload_n 2, 1) := by decide +kernel
theorem u123_2 {d : Nat} {ls : Lo} {st : List Va} {σ : Sg} {Q : Rs → Sg → Prop} : Wx d 123 2 ls st σ Q ↔ Li (lget ls 2) (fun z => Wx d 123 3 ls (vi z :: st) σ Q) := u_iload_n d123_2
theorem d123_3 : decode (mB 123) 3 = .ok (.iconst 3, 1) := by decide +kernel
theorem u123_3 {d : Nat} {ls : Lo} {st : List Va} {σ : Sg} {Q : Rs → Sg → Prop} : Wx d 123 3 ls st σ Q ↔ Wx d 123 4 ls (vi 3 :: st) σ Q := u_iconst d123_3
theorem d123_4 : decode (mB 123) 4 = .ok (.if_icmp .ge 51, 3) := by decide +kernel
theorem u123_4 {d : Nat} {ls : Lo} {st : List Va} {σ : Sg} {Q : Rs → Sg → Prop} {a b : Int} (h : -2147483648 ≤ a ∧ a ≤ 2147483647) (h2 : -2147483648 ≤ b ∧ b ≤ 2147483647) : Wx d 123 4 ls (vi b :: vi a :: st) σ Q ↔ if b ≤ a then Wx d 123 55 ls st σ Q else Wx d 123 7 ls st σ Q := u_icge d123_4 (by decide) h h2
theorem d123_7 : decode (mB 123) 7 = .ok (.aload_n 0, 1) := by decide +kernel
theorem u123_7 {d : Nat} {ls : Lo} {st : List Va} {σ : Sg} {Q : Rs → Sg → Prop} : Wx d 123 7 ls st σ Q ↔ Lr (lget ls 0) (fun z => Wx d 123 8 ls (.inr (.inl z) :: st) σ Q) := u_aload_n d123_7
theorem d123_8 : decode (mB 123) 8 = .ok (.iload_n 1, 1) := by decide +kernel
theorem u123_8 {d : Nat} {ls : Lo} {st : List Va} {σ : Sg} {Q : Rs → Sg → Prop} : Wx d 123 8 ls st σ Q ↔ Li (lget ls 1) (fun z => Wx d 123 9 ls (vi z :: st) σ Q) := u_iload_n d123_8
theorem d123_9 : decode (mB 123) 9 = .ok (.iconst 0, 1) := by decide +kernel
theorem u123_9 {d : Nat} {ls : Lo} {st : List Va} {σ : Sg} {Q : Rs → Sg → Prop} : Wx d 123 9 ls st σ Q ↔ Wx d 123 10 ls (vi 0 :: st) σ Q := u_iconst d123_9
theorem d123_10 : decode (mB 123) 10 = .ok (.iload_n 2, 1) := by decide +kernel
theorem u123_10 {d : Nat} {ls : Lo} {st : List Va} {σ : Sg} {Q : Rs → Sg → Prop} : Wx d 123 10 ls st σ Q ↔ Li (lget ls 2) (fun z => Wx d 123 11 ls (vi z :: st) σ Q) := u_iload_n d123_10
theorem d123_11 : decode (mB 123) 11 = .ok (.aload_n 0, 1) := by decide +kernel
theorem u123_11 {d : Nat} {ls : Lo} {st : List Va} {σ : Sg} {Q : Rs → Sg → Prop} : Wx d 123 11 ls st σ Q ↔ Lr (lget ls 0) (fun z => Wx d 123 12 ls (.inr (.inl z) :: st) σ Q) := u_aload_n d123_11
theorem d123_12 : decode (mB 123) 12 = .ok (.getfield 102, 3) := by decide +kernel
theorem u123_12 {d : Nat} {ls : Lo} {st : List Va} {σ : Sg} {Q : Rs → Sg → Prop} {g j : Nat} : Wx d 123 12 ls (vr g j :: st) σ Q ↔ isO g j 7 ∧ Wx d 123 15 ls (fvv σ g j 40 :: st) σ Q := u_get (w := (7, 40)) d123_12 rfl
theorem d123_15 : decode (mB 123) 15 = .ok (.iload_n 2, 1) := by decide +kernel
theorem u123_15 {d : Nat} {ls : Lo} {st : List Va} {σ : Sg} {Q : Rs → Sg → Prop} : Wx d 123 15 ls st σ Q ↔ Li (lget ls 2) (fun z => Wx d 123 16 ls (vi z :: st) σ Q) := u_iload_n d123_15
theorem d123_16 : decode (mB 123) 16 = .ok (.iaload, 1) := by decide +kernel
theorem u123_16 {d : Nat} {ls : Lo} {st : List Va} {σ : Sg} {Q : Rs → Sg → Prop} {z : Int} {g j : Nat} : Wx d 123 16 ls (vi z :: vr g j :: st) σ Q ↔ On (ial σ g j z) (fun x => Wx d 123 17 ls (vi x :: st) σ Q) := u_iald d123_16
theorem d123_17 : decode (mB 123) 17 = .ok (.aload_n 0, 1) := by decide +kernel
theorem u123_17 {d : Nat} {ls : Lo} {st : List Va} {σ : Sg} {Q : Rs → Sg → Prop} : Wx d 123 17 ls st σ Q ↔ Lr (lget ls 0) (fun z => Wx d 123 18 ls (.inr (.inl z) :: st) σ Q) := u_aload_n d123_17
theorem d123_18 : decode (mB 123) 18 = .ok (.getfield 16, 3) := by decide +kernel
theorem u123_18 {d : Nat} {ls : Lo} {st : List Va} {σ : Sg} {Q : Rs → Sg → Prop} {g j : Nat} : Wx d 123 18 ls (vr g j :: st) σ Q ↔ isO g j 7 ∧ Wx d 123 21 ls (fvv σ g j 3 :: st) σ Q := u_get (w := (7, 3)) d123_18 rfl
theorem d123_21 : decode (mB 123) 21 = .ok (.iload_n 2, 1) := by decide +kernel
theorem u123_21 {d : Nat} {ls : Lo} {st : List Va} {σ : Sg} {Q : Rs → Sg → Prop} : Wx d 123 21 ls st σ Q ↔ Li (lget ls 2) (fun z => Wx d 123 22 ls (vi z :: st) σ Q) := u_iload_n d123_21
theorem d123_22 : decode (mB 123) 22 = .ok (.iaload, 1) := by decide +kernel
theorem u123_22 {d : Nat} {ls : Lo} {st : List Va} {σ : Sg} {Q : Rs → Sg → Prop} {z : Int} {g j : Nat} : Wx d 123 22 ls (vi z :: vr g j :: st) σ Q ↔ On (ial σ g j z) (fun x => Wx d 123 23 ls (vi x :: st) σ Q) := u_iald d123_22
theorem d123_23 : decode (mB 123) 23 = .ok (.if_icmp .lt 18, 3) := by decide +kernel
theorem u123_23 {d : Nat} {ls : Lo} {st : List Va} {σ : Sg} {Q : Rs → Sg → Prop} {a b : Int} (h : -2147483648 ≤ a ∧ a ≤ 2147483647) (h2 : -2147483648 ≤ b ∧ b ≤ 2147483647) : Wx d 123 23 ls (vi b :: vi a :: st) σ Q ↔ if a < b then Wx d 123 41 ls st σ Q else Wx d 123 26 ls st σ Q := u_iclt d123_23 (by decide) h h2
theorem d123_26 : decode (mB 123) 26 = .ok (.aload_n 0, 1) := by decide +kernel
theorem u123_26 {d : Nat} {ls : Lo} {st : List Va} {σ : Sg} {Q : Rs → Sg → Prop} : Wx d 123 26 ls st σ Q ↔ Lr (lget ls 0) (fun z => Wx d 123 27 ls (.inr (.inl z) :: st) σ Q) := u_aload_n d123_26
theorem d123_27 : decode (mB 123) 27 = .ok (.getfield 102, 3) := by decide +kernel
theorem u123_27 {d : Nat} {ls : Lo} {st : List Va} {σ : Sg} {Q : Rs → Sg → Prop} {g j : Nat} : Wx d 123 27 ls (vr g j :: st) σ Q ↔ isO g j 7 ∧ Wx d 123 30 ls (fvv σ g j 40 :: st) σ Q := u_get (w := (7, 40)) d123_27 rfl
theorem d123_30 : decode (mB 123) 30 = .ok (.iload_n 2, 1) := by decide +kernel
theorem u123_30 {d : Nat} {ls : Lo} {st : List Va} {σ : Sg} {Q : Rs → Sg → Prop} : Wx d 123 30 ls st σ Q ↔ Li (lget ls 2) (fun z => Wx d 123 31 ls (vi z :: st) σ Q) := u_iload_n d123_30
theorem d123_31 : decode (mB 123) 31 = .ok (.iaload, 1) := by decide +kernel
theorem u123_31 {d : Nat} {ls : Lo} {st : List Va} {σ : Sg} {Q : Rs → Sg → Prop} {z : Int} {g j : Nat} : Wx d 123 31 ls (vi z :: vr g j :: st) σ Q ↔ On (ial σ g j z) (fun x => Wx d 123 32 ls (vi x :: st) σ Q) := u_iald d123_31
theorem d123_32 : decode (mB 123) 32 = .ok (.aload_n 0, 1) := by decide +kernel
theorem u123_32 {d : Nat} {ls : Lo} {st : List Va} {σ : Sg} {Q : Rs → Sg → Prop} : Wx d 123 32 ls st σ Q ↔ Lr (lget ls 0) (fun z => Wx d 123 33 ls (.inr (.inl z) :: st) σ Q) := u_aload_n d123_32
theorem d123_33 : decode (mB 123) 33 = .ok (.getfield 19, 3) := by decide +kernel
theorem u123_33 {d : Nat} {ls : Lo} {st : List Va} {σ : Sg} {Q : Rs → Sg → Prop} {g j : Nat} : Wx d 123 33 ls (vr g j :: st) σ Q ↔ isO g j 7 ∧ Wx d 123 36 ls (fvv σ g j 4 :: st) σ Q := u_get (w := (7, 4)) d123_33 rfl
theorem d123_36 : decode (mB 123) 36 = .ok (.iload_n 2, 1) := by decide +kernel
theorem u123_36 {d : Nat} {ls : Lo} {st : List Va} {σ : Sg} {Q : Rs → Sg → Prop} : Wx d 123 36 ls st σ Q ↔ Li (lget ls 2) (fun z => Wx d 123 37 ls (vi z :: st) σ Q) := u_iload_n d123_36
theorem d123_37 : decode (mB 123) 37 = .ok (.iaload, 1) := by decide +kernel
theorem u123_37 {d : Nat} {ls : Lo} {st : List Va} {σ : Sg} {Q : Rs → Sg → Prop} {z : Int} {g j : Nat} : Wx d 123 37 ls (vi z :: vr g j :: st) σ Q ↔ On (ial σ g j z) (fun x => Wx d 123 38 ls (vi x :: st) σ Q) := u_iald d123_37
theorem d123_38 : decode (mB 123) 38 = .ok (.if_icmp .le 7, 3) := by decide +kernel
theorem u123_38 {d : Nat} {ls : Lo} {st : List Va} {σ : Sg} {Q : Rs → Sg → Prop} {a b : Int} (h : -2147483648 ≤ a ∧ a ≤ 2147483647) (h2 : -2147483648 ≤ b ∧ b ≤ 2147483647) : Wx d 123 38 ls (vi b :: vi a :: st) σ Q ↔ if a ≤ b then Wx d 123 45 ls st σ Q else Wx d 123 41 ls st σ Q := u_icle d123_38 (by decide) h h2
theorem d123_41 : decode (mB 123) 41 = .ok (.iconst 1, 1) := by decide +kernel
theorem u123_41 {d : Nat} {ls : Lo} {st : List Va} {σ : Sg} {Q : Rs → Sg → Prop} : Wx d 123 41 ls st σ Q ↔ Wx d 123 42 ls (vi 1 :: st) σ Q := u_iconst d123_41
theorem d123_42 : decode (mB 123) 42 = .ok (.goto 4, 3) := by decide +kernel
theorem u123_42 {d : Nat} {ls : Lo} {st : List Va} {σ : Sg} {Q : Rs → Sg → Prop} : Wx d 123 42 ls st σ Q ↔ Wx d 123 46 ls st σ Q := u_goto d123_42 (by decide)
theorem d123_45 : decode (mB 123) 45 = .ok (.iconst 0, 1) := by decide +kernel
theorem u123_45 {d : Nat} {ls : Lo} {st : List Va} {σ : Sg} {Q : Rs → Sg → Prop} : Wx d 123 45 ls st σ Q ↔ Wx d 123 46 ls (vi 0 :: st) σ Q := u_iconst d123_45
theorem d123_46 : decode (mB 123) 46 = .ok (.invokevirtual 256, 3) := by decide +kernel
theorem u123_46 {d : Nat} {ls : Lo} {st : List Va} {σ : Sg} {Q : Rs → Sg → Prop} {g j : Nat} {a1 a2 a3 a4 : Va} : Wx (d + 1) 123 46 ls (a4 :: a3 :: a2 :: a1 :: vr g j :: st) σ Q ↔ (isO g j 7 ∧ st.length ≤ 4 ∧ nlg [a4, a3, a2, a1] = true) ∧ Wm d 121 [vr g j, a1, a2, a3, a4] σ (Kc (d + 1) 123 49 ls st Q) := u_inv4 d123_46 rfl rfl rfl
theorem d123_49 : decode (mB 123) 49 = .ok (.iinc 2 1, 3) := by decide +kernel
theorem u123_49 {d : Nat} {ls : Lo} {st : List Va} {σ : Sg} {Q : Rs → Sg → Prop} : Wx d 123 49 ls st σ Q ↔ Li (lget ls 2) (fun z => Wx d 123 52 (lset ls 2 (vi (z + 1))) st σ Q) := u_iinc d123_49 (by decide)
theorem d123_52 : decode (mB 123) 52 = .ok (.goto (-50), 3) := by decide +kernel
theorem u123_52 {d : Nat} {ls : Lo} {st : List Va} {σ : Sg} {Q : Rs → Sg → Prop} : Wx d 123 52 ls st σ Q ↔ Wx d 123 2 ls st σ Q := u_goto d123_52 (by decide)
theorem d123_55 : decode (mB 123) 55 = .ok (.iconst 0, 1) := by decide +kernel
theorem u123_55 {d : Nat} {ls : Lo} {st : List Va} {σ : Sg} {Q : Rs → Sg → Prop} : Wx d 123 55 ls st σ Q ↔ Wx d 123 56 ls (vi 0 :: st) σ Q := u_iconst d123_55
theorem d123_56 : decode (mB 123) 56 = .ok (.istore_n 2, 1) := by decide +kernel
theorem u123_56 {d : Nat} {ls : Lo} {st : List Va} {σ : Sg} {Q : Rs → Sg → Prop} {z : Int} : Wx d 123 56 ls (vi z :: st) σ Q ↔ Wx d 123 57 (lset ls 2 (vi z)) st σ Q := u_istore_n d123_56 (by decide)
theorem d123_57 : decode (mB 123) 57 = .ok (.iload_n 2, 1) := by decide +kernel
theorem u123_57 {d : Nat} {ls : Lo} {st : List Va} {σ : Sg} {Q : Rs → Sg → Prop} : Wx d 123 57 ls st σ Q ↔ Li (lget ls 2) (fun z => Wx d 123 58 ls (vi z :: st) σ Q) := u_iload_n d123_57
theorem d123_58 : decode (mB 123) 58 = .ok (.iconst 3, 1) := by decide +kernel
theorem u123_58 {d : Nat} {ls : Lo} {st : List Va} {σ : Sg} {Q : Rs → Sg → Prop} : Wx d 123 58 ls st σ Q ↔ Wx d 123 59 ls (vi 3 :: st) σ Q := u_iconst d123_58
theorem d123_59 : decode (mB 123) 59 = .ok (.if_icmp .ge 42, 3) := by decide +kernel
theorem u123_59 {d : Nat} {ls : Lo} {st : List Va} {σ : Sg} {Q : Rs → Sg → Prop} {a b : Int} (h : -2147483648 ≤ a ∧ a ≤ 2147483647) (h2 : -2147483648 ≤ b ∧ b ≤ 2147483647) : Wx d 123 59 ls (vi b :: vi a :: st) σ Q ↔ if b ≤ a then Wx d 123 101 ls st σ Q else Wx d 123 62 ls st σ Q := u_icge d123_59 (by decide) h h2
theorem d123_62 : decode (mB 123) 62 = .ok (.aload_n 0, 1) := by decide +kernel
theorem u123_62 {d : Nat} {ls : Lo} {st : List Va} {σ : Sg} {Q : Rs → Sg → Prop} : Wx d 123 62 ls st σ Q ↔ Lr (lget ls 0) (fun z => Wx d 123 63 ls (.inr (.inl z) :: st) σ Q) := u_aload_n d123_62
theorem d123_63 : decode (mB 123) 63 = .ok (.iload_n 1, 1) := by decide +kernel
theorem u123_63 {d : Nat} {ls : Lo} {st : List Va} {σ : Sg} {Q : Rs → Sg → Prop} : Wx d 123 63 ls st σ Q ↔ Li (lget ls 1) (fun z => Wx d 123 64 ls (vi z :: st) σ Q) := u_iload_n d123_63
theorem d123_64 : decode (mB 123) 64 = .ok (.iconst 1, 1) := by decide +kernel
theorem u123_64 {d : Nat} {ls : Lo} {st : List Va} {σ : Sg} {Q : Rs → Sg → Prop} : Wx d 123 64 ls st σ Q ↔ Wx d 123 65 ls (vi 1 :: st) σ Q := u_iconst d123_64
theorem d123_65 : decode (mB 123) 65 = .ok (.iconst 5, 1) := by decide +kernel
theorem u123_65 {d : Nat} {ls : Lo} {st : List Va} {σ : Sg} {Q : Rs → Sg → Prop} : Wx d 123 65 ls st σ Q ↔ Wx d 123 66 ls (vi 5 :: st) σ Q := u_iconst d123_65
theorem d123_66 : decode (mB 123) 66 = .ok (.iload_n 2, 1) := by decide +kernel
theorem u123_66 {d : Nat} {ls : Lo} {st : List Va} {σ : Sg} {Q : Rs → Sg → Prop} : Wx d 123 66 ls st σ Q ↔ Li (lget ls 2) (fun z => Wx d 123 67 ls (vi z :: st) σ Q) := u_iload_n d123_66
theorem d123_67 : decode (mB 123) 67 = .ok (.imul, 1) := by decide +kernel
theorem u123_67 {d : Nat} {ls : Lo} {st : List Va} {σ : Sg} {Q : Rs → Sg → Prop} {a b : Int} : Wx d 123 67 ls (vi b :: vi a :: st) σ Q ↔ Wx d 123 68 ls (vi (a * b) :: st) σ Q := u_imul d123_67
theorem d123_68 : decode (mB 123) 68 = .ok (.iconst 1, 1) := by decide +kernel
theorem u123_68 {d : Nat} {ls : Lo} {st : List Va} {σ : Sg} {Q : Rs → Sg → Prop} : Wx d 123 68 ls st σ Q ↔ Wx d 123 69 ls (vi 1 :: st) σ Q := u_iconst d123_68
theorem d123_69 : decode (mB 123) 69 = .ok (.iadd, 1) := by decide +kernel
theorem u123_69 {d : Nat} {ls : Lo} {st : List Va} {σ : Sg} {Q : Rs → Sg → Prop} {a b : Int} : Wx d 123 69 ls (vi b :: vi a :: st) σ Q ↔ Wx d 123 70 ls (vi (a + b) :: st) σ Q := u_iadd d123_69
theorem d123_70 : decode (mB 123) 70 = .ok (.aload_n 0, 1) := by decide +kernel
theorem u123_70 {d : Nat} {ls : Lo} {st : List Va} {σ : Sg} {Q : Rs → Sg → Prop} : Wx d 123 70 ls st σ Q ↔ Lr (lget ls 0) (fun z => Wx d 123 71 ls (.inr (.inl z) :: st) σ Q) := u_aload_n d123_70
theorem d123_71 : decode (mB 123) 71 = .ok (.getfield 102, 3) := by decide +kernel
theorem u123_71 {d : Nat} {ls : Lo} {st : List Va} {σ : Sg} {Q : Rs → Sg → Prop} {g j : Nat} : Wx d 123 71 ls (vr g j :: st) σ Q ↔ isO g j 7 ∧ Wx d 123 74 ls (fvv σ g j 40 :: st) σ Q := u_get (w := (7, 40)) d123_71 rfl
theorem d123_74 : decode (mB 123) 74 = .ok (.iload_n 2, 1) := by decide +kernel
theorem u123_74 {d : Nat} {ls : Lo} {st : List Va} {σ : Sg} {Q : Rs → Sg → Prop} : Wx d 123 74 ls st σ Q ↔ Li (lget ls 2) (fun z => Wx d 123 75 ls (vi z :: st) σ Q) := u_iload_n d123_74
theorem d123_75 : decode (mB 123) 75 = .ok (.iconst 1, 1) := by decide +kernel
theorem u123_75 {d : Nat} {ls : Lo} {st : List Va} {σ : Sg} {Q : Rs → Sg → Prop} : Wx d 123 75 ls st σ Q ↔ Wx d 123 76 ls (vi 1 :: st) σ Q := u_iconst d123_75
theorem d123_76 : decode (mB 123) 76 = .ok (.iadd, 1) := by decide +kernel
theorem u123_76 {d : Nat} {ls : Lo} {st : List Va} {σ : Sg} {Q : Rs → Sg → Prop} {a b : Int} : Wx d 123 76 ls (vi b :: vi a :: st) σ Q ↔ Wx d 123 77 ls (vi (a + b) :: st) σ Q := u_iadd d123_76
theorem d123_77 : decode (mB 123) 77 = .ok (.iaload, 1) := by decide +kernel
theorem u123_77 {d : Nat} {ls : Lo} {st : List Va} {σ : Sg} {Q : Rs → Sg → Prop} {z : Int} {g j : Nat} : Wx d 123 77 ls (vi z :: vr g j :: st) σ Q ↔ On (ial σ g j z) (fun x => Wx d 123 78 ls (vi x :: st) σ Q) := u_iald d123_77
theorem d123_78 : decode (mB 123) 78 = .ok (.aload_n 0, 1) := by decide +kernel
theorem u123_78 {d : Nat} {ls : Lo} {st : List Va} {σ : Sg} {Q : Rs → Sg → Prop} : Wx d 123 78 ls st σ Q ↔ Lr (lget ls 0) (fun z => Wx d 123 79 ls (.inr (.inl z) :: st) σ Q) := u_aload_n d123_78
theorem d123_79 : decode (mB 123) 79 = .ok (.getfield 102, 3) := by decide +kernel
theorem u123_79 {d : Nat} {ls : Lo} {st : List Va} {σ : Sg} {Q : Rs → Sg → Prop} {g j : Nat} : Wx d 123 79 ls (vr g j :: st) σ Q ↔ isO g j 7 ∧ Wx d 123 82 ls (fvv σ g j 40 :: st) σ Q := u_get (w := (7, 40)) d123_79 rfl
theorem d123_82 : decode (mB 123) 82 = .ok (.iload_n 2, 1) := by decide +kernel
theorem u123_82 {d : Nat} {ls : Lo} {st : List Va} {σ : Sg} {Q : Rs → Sg → Prop} : Wx d 123 82 ls st σ Q ↔ Li (lget ls 2) (fun z => Wx d 123 83 ls (vi z :: st) σ Q) := u_iload_n d123_82
theorem d123_83 : decode (mB 123) 83 = .ok (.iaload, 1) := by decide +kernel
theorem u123_83 {d : Nat} {ls : Lo} {st : List Va} {σ : Sg} {Q : Rs → Sg → Prop} {z : Int} {g j : Nat} : Wx d 123 83 ls (vi z :: vr g j :: st) σ Q ↔ On (ial σ g j z) (fun x => Wx d 123 84 ls (vi x :: st) σ Q) := u_iald d123_83
theorem d123_84 : decode (mB 123) 84 = .ok (.if_icmp .le 7, 3) := by decide +kernel
theorem u123_84 {d : Nat} {ls : Lo} {st : List Va} {σ : Sg} {Q : Rs → Sg → Prop} {a b : Int} (h : -2147483648 ≤ a ∧ a ≤ 2147483647) (h2 : -2147483648 ≤ b ∧ b ≤ 2147483647) : Wx d 123 84 ls (vi b :: vi a :: st) σ Q ↔ if a ≤ b then Wx d 123 91 ls st σ Q else Wx d 123 87 ls st σ Q := u_icle d123_84 (by decide) h h2
theorem d123_87 : decode (mB 123) 87 = .ok (.iconst 1, 1) := by decide +kernel
theorem u123_87 {d : Nat} {ls : Lo} {st : List Va} {σ : Sg} {Q : Rs → Sg → Prop} : Wx d 123 87 ls st σ Q ↔ Wx d 123 88 ls (vi 1 :: st) σ Q := u_iconst d123_87
theorem d123_88 : decode (mB 123) 88 = .ok (.goto 4, 3) := by decide +kernel
theorem u123_88 {d : Nat} {ls : Lo} {st : List Va} {σ : Sg} {Q : Rs → Sg → Prop} : Wx d 123 88 ls st σ Q ↔ Wx d 123 92 ls st σ Q := u_goto d123_88 (by decide)
theorem d123_91 : decode (mB 123) 91 = .ok (.iconst 0, 1) := by decide +kernel
theorem u123_91 {d : Nat} {ls : Lo} {st : List Va} {σ : Sg} {Q : Rs → Sg → Prop} : Wx d 123 91 ls st σ Q ↔ Wx d 123 92 ls (vi 0 :: st) σ Q := u_iconst d123_91
theorem d123_92 : decode (mB 123) 92 = .ok (.invokevirtual 256, 3) := by decide +kernel
theorem u123_92 {d : Nat} {ls : Lo} {st : List Va} {σ : Sg} {Q : Rs → Sg → Prop} {g j : Nat} {a1 a2 a3 a4 : Va} : Wx (d + 1) 123 92 ls (a4 :: a3 :: a2 :: a1 :: vr g j :: st) σ Q ↔ (isO g j 7 ∧ st.length ≤ 4 ∧ nlg [a4, a3, a2, a1] = true) ∧ Wm d 121 [vr g j, a1, a2, a3, a4] σ (Kc (d + 1) 123 95 ls st Q) := u_inv4 d123_92 rfl rfl rfl
theorem d123_95 : decode (mB 123) 95 = .ok (.iinc 2 1, 3) := by decide +kernel
theorem u123_95 {d : Nat} {ls : Lo} {st : List Va} {σ : Sg} {Q : Rs → Sg → Prop} : Wx d 123 95 ls st σ Q ↔ Li (lget ls 2) (fun z => Wx d 123 98 (lset ls 2 (vi (z + 1))) st σ Q) := u_iinc d123_95 (by decide)
theorem d123_98 : decode (mB 123) 98 = .ok (.goto (-41), 3) := by decide +kernel
theorem u123_98 {d : Nat} {ls : Lo} {st : List Va} {σ : Sg} {Q : Rs → Sg → Prop} : Wx d 123 98 ls st σ Q ↔ Wx d 123 57 ls st σ Q := u_goto d123_98 (by decide)
theorem d123_101 : decode (mB 123) 101 = .ok (.iconst 0, 1) := by decide +kernel
theorem u123_101 {d : Nat} {ls : Lo} {st : List Va} {σ : Sg} {Q : Rs → Sg → Prop} : Wx d 123 101 ls st σ Q ↔ Wx d 123 102 ls (vi 0 :: st) σ Q := u_iconst d123_101
theorem d123_102 : decode (mB 123) 102 = .ok (.istore_n 2, 1) := by decide +kernel
theorem u123_102 {d : Nat} {ls : Lo} {st : List Va} {σ : Sg} {Q : Rs → Sg → Prop} {z : Int} : Wx d 123 102 ls (vi z :: st) σ Q ↔ Wx d 123 103 (lset ls 2 (vi z)) st σ Q := u_istore_n d123_102 (by decide)
theorem d123_103 : decode (mB 123) 103 = .ok (.iload_n 2, 1) := by decide +kernel
theorem u123_103 {d : Nat} {ls : Lo} {st : List Va} {σ : Sg} {Q : Rs → Sg → Prop} : Wx d 123 103 ls st σ Q ↔ Li (lget ls 2) (fun z => Wx d 123 104 ls (vi z :: st) σ Q) := u_iload_n d123_103
theorem d123_104 : decode (mB 123) 104 = .ok (.iconst 2, 1) := by decide +kernel
theorem u123_104 {d : Nat} {ls : Lo} {st : List Va} {σ : Sg} {Q : Rs → Sg → Prop} : Wx d 123 104 ls st σ Q ↔ Wx d 123 105 ls (vi 2 :: st) σ Q := u_iconst d123_104
theorem d123_105 : decode (mB 123) 105 = .ok (.if_icmp .ge 53, 3) := by decide +kernel
theorem u123_105 {d : Nat} {ls : Lo} {st : List Va} {σ : Sg} {Q : Rs → Sg → Prop} {a b : Int} (h : -2147483648 ≤ a ∧ a ≤ 2147483647) (h2 : -2147483648 ≤ b ∧ b ≤ 2147483647) : Wx d 123 105 ls (vi b :: vi a :: st) σ Q ↔ if b ≤ a then Wx d 123 158 ls st σ Q else Wx d 123 108 ls st σ Q := u_icge d123_105 (by decide) h h2
theorem d123_108 : decode (mB 123) 108 = .ok (.aload_n 0, 1) := by decide +kernel
theorem u123_108 {d : Nat} {ls : Lo} {st : List Va} {σ : Sg} {Q : Rs → Sg → Prop} : Wx d 123 108 ls st σ Q ↔ Lr (lget ls 0) (fun z => Wx d 123 109 ls (.inr (.inl z) :: st) σ Q) := u_aload_n d123_108
theorem d123_109 : decode (mB 123) 109 = .ok (.getfield 102, 3) := by decide +kernel
theorem u123_109 {d : Nat} {ls : Lo} {st : List Va} {σ : Sg} {Q : Rs → Sg → Prop} {g j : Nat} : Wx d 123 109 ls (vr g j :: st) σ Q ↔ isO g j 7 ∧ Wx d 123 112 ls (fvv σ g j 40 :: st) σ Q := u_get (w := (7, 40)) d123_109 rfl
theorem d123_112 : decode (mB 123) 112 = .ok (.iload_n 2, 1) := by decide +kernel
theorem u123_112 {d : Nat} {ls : Lo} {st : List Va} {σ : Sg} {Q : Rs → Sg → Prop} : Wx d 123 112 ls st σ Q ↔ Li (lget ls 2) (fun z => Wx d 123 113 ls (vi z :: st) σ Q) := u_iload_n d123_112
theorem d123_113 : decode (mB 123) 113 = .ok (.iaload, 1) := by decide +kernel
theorem u123_113 {d : Nat} {ls : Lo} {st : List Va} {σ : Sg} {Q : Rs → Sg → Prop} {z : Int} {g j : Nat} : Wx d 123 113 ls (vi z :: vr g j :: st) σ Q ↔ On (ial σ g j z) (fun x => Wx d 123 114 ls (vi x :: st) σ Q) := u_iald d123_113
theorem d123_114 : decode (mB 123) 114 = .ok (.aload_n 0, 1) := by decide +kernel
theorem u123_114 {d : Nat} {ls : Lo} {st : List Va} {σ : Sg} {Q : Rs → Sg → Prop} : Wx d 123 114 ls st σ Q ↔ Lr (lget ls 0) (fun z => Wx d 123 115 ls (.inr (.inl z) :: st) σ Q) := u_aload_n d123_114
theorem d123_115 : decode (mB 123) 115 = .ok (.getfield 102, 3) := by decide +kernel
theorem u123_115 {d : Nat} {ls : Lo} {st : List Va} {σ : Sg} {Q : Rs → Sg → Prop} {g j : Nat} : Wx d 123 115 ls (vr g j :: st) σ Q ↔ isO g j 7 ∧ Wx d 123 118 ls (fvv σ g j 40 :: st) σ Q := u_get (w := (7, 40)) d123_115 rfl
theorem d123_118 : decode (mB 123) 118 = .ok (.iload_n 2, 1) := by decide +kernel
theorem u123_118 {d : Nat} {ls : Lo} {st : List Va} {σ : Sg} {Q : Rs → Sg → Prop} : Wx d 123 118 ls st σ Q ↔ Li (lget ls 2) (fun z => Wx d 123 119 ls (vi z :: st) σ Q) := u_iload_n d123_118
theorem d123_119 : decode (mB 123) 119 = .ok (.iconst 1, 1) := by decide +kernel
theorem u123_119 {d : Nat} {ls : Lo} {st : List Va} {σ : Sg} {Q : Rs → Sg → Prop} : Wx d 123 119 ls st σ Q ↔ Wx d 123 120 ls (vi 1 :: st) σ Q := u_iconst d123_119
theorem d123_120 : decode (mB 123) 120 = .ok (.iadd, 1) := by decide +kernel
theorem u123_120 {d : Nat} {ls : Lo} {st : List Va} {σ : Sg} {Q : Rs → Sg → Prop} {a b : Int} : Wx d 123 120 ls (vi b :: vi a :: st) σ Q ↔ Wx d 123 121 ls (vi (a + b) :: st) σ Q := u_iadd d123_120
theorem d123_121 : decode (mB 123) 121 = .ok (.iaload, 1) := by decide +kernel
theorem u123_121 {d : Nat} {ls : Lo} {st : List Va} {σ : Sg} {Q : Rs → Sg → Prop} {z : Int} {g j : Nat} : Wx d 123 121 ls (vi z :: vr g j :: st) σ Q ↔ On (ial σ g j z) (fun x => Wx d 123 122 ls (vi x :: st) σ Q) := u_iald d123_121
theorem d123_122 : decode (mB 123) 122 = .ok (.isub, 1) := by decide +kernel
theorem u123_122 {d : Nat} {ls : Lo} {st : List Va} {σ : Sg} {Q : Rs → Sg → Prop} {a b : Int} : Wx d 123 122 ls (vi b :: vi a :: st) σ Q ↔ Wx d 123 123 ls (vi (a - b) :: st) σ Q := u_isub d123_122
theorem d123_123 : decode (mB 123) 123 = .ok (.istore_n 3, 1) := by decide +kernel
theorem u123_123 {d : Nat} {ls : Lo} {st : List Va} {σ : Sg} {Q : Rs → Sg → Prop} {z : Int} : Wx d 123 123 ls (vi z :: st) σ Q ↔ Wx d 123 124 (lset ls 3 (vi z)) st σ Q := u_istore_n d123_123 (by decide)
theorem d123_124 : decode (mB 123) 124 = .ok (.aload_n 0, 1) := by decide +kernel
theorem u123_124 {d : Nat} {ls : Lo} {st : List Va} {σ : Sg} {Q : Rs → Sg → Prop} : Wx d 123 124 ls st σ Q ↔ Lr (lget ls 0) (fun z => Wx d 123 125 ls (.inr (.inl z) :: st) σ Q) := u_aload_n d123_124
theorem d123_125 : decode (mB 123) 125 = .ok (.iload_n 1, 1) := by decide +kernel
theorem u123_125 {d : Nat} {ls : Lo} {st : List Va} {σ : Sg} {Q : Rs → Sg → Prop} : Wx d 123 125 ls st σ Q ↔ Li (lget ls 1) (fun z => Wx d 123 126 ls (vi z :: st) σ Q) := u_iload_n d123_125
theorem d123_126 : decode (mB 123) 126 = .ok (.iconst 2, 1) := by decide +kernel
theorem u123_126 {d : Nat} {ls : Lo} {st : List Va} {σ : Sg} {Q : Rs → Sg → Prop} : Wx d 123 126 ls st σ Q ↔ Wx d 123 127 ls (vi 2 :: st) σ Q := u_iconst d123_126
theorem d123_127 : decode (mB 123) 127 = .ok (.iconst 5, 1) := by decide +kernel
theorem u123_127 {d : Nat} {ls : Lo} {st : List Va} {σ : Sg} {Q : Rs → Sg → Prop} : Wx d 123 127 ls st σ Q ↔ Wx d 123 128 ls (vi 5 :: st) σ Q := u_iconst d123_127
theorem d123_128 : decode (mB 123) 128 = .ok (.iload_n 2, 1) := by decide +kernel
theorem u123_128 {d : Nat} {ls : Lo} {st : List Va} {σ : Sg} {Q : Rs → Sg → Prop} : Wx d 123 128 ls st σ Q ↔ Li (lget ls 2) (fun z => Wx d 123 129 ls (vi z :: st) σ Q) := u_iload_n d123_128
theorem d123_129 : decode (mB 123) 129 = .ok (.imul, 1) := by decide +kernel
theorem u123_129 {d : Nat} {ls : Lo} {st : List Va} {σ : Sg} {Q : Rs → Sg → Prop} {a b : Int} : Wx d 123 129 ls (vi b :: vi a :: st) σ Q ↔ Wx d 123 130 ls (vi (a * b) :: st) σ Q := u_imul d123_129
theorem d123_130 : decode (mB 123) 130 = .ok (.iconst 1, 1) := by decide +kernel
theorem u123_130 {d : Nat} {ls : Lo} {st : List Va} {σ : Sg} {Q : Rs → Sg → Prop} : Wx d 123 130 ls st σ Q ↔ Wx d 123 131 ls (vi 1 :: st) σ Q := u_iconst d123_130
theorem d123_131 : decode (mB 123) 131 = .ok (.iadd, 1) := by decide +kernel
theorem u123_131 {d : Nat} {ls : Lo} {st : List Va} {σ : Sg} {Q : Rs → Sg → Prop} {a b : Int} : Wx d 123 131 ls (vi b :: vi a :: st) σ Q ↔ Wx d 123 132 ls (vi (a + b) :: st) σ Q := u_iadd d123_131
theorem d123_132 : decode (mB 123) 132 = .ok (.iload_n 3, 1) := by decide +kernel
theorem u123_132 {d : Nat} {ls : Lo} {st : List Va} {σ : Sg} {Q : Rs → Sg → Prop} : Wx d 123 132 ls st σ Q ↔ Li (lget ls 3) (fun z => Wx d 123 133 ls (vi z :: st) σ Q) := u_iload_n d123_132
theorem d123_133 : decode (mB 123) 133 = .ok (.bipush 12, 2) := by decide +kernel
theorem u123_133 {d : Nat} {ls : Lo} {st : List Va} {σ : Sg} {Q : Rs → Sg → Prop} : Wx d 123 133 ls st σ Q ↔ Wx d 123 135 ls (vi 12 :: st) σ Q := u_bipush d123_133 (by decide)
theorem d123_135 : decode (mB 123) 135 = .ok (.if_icmp .gt 9, 3) := by decide +kernel
theorem u123_135 {d : Nat} {ls : Lo} {st : List Va} {σ : Sg} {Q : Rs → Sg → Prop} {a b : Int} (h : -2147483648 ≤ a ∧ a ≤ 2147483647) (h2 : -2147483648 ≤ b ∧ b ≤ 2147483647) : Wx d 123 135 ls (vi b :: vi a :: st) σ Q ↔ if b < a then Wx d 123 144 ls st σ Q else Wx d 123 138 ls st σ Q := u_icgt d123_135 (by decide) h h2
theorem d123_138 : decode (mB 123) 138 = .ok (.iload_n 3, 1) := by decide +kernel
theorem u123_138 {d : Nat} {ls : Lo} {st : List Va} {σ : Sg} {Q : Rs → Sg → Prop} : Wx d 123 138 ls st σ Q ↔ Li (lget ls 3) (fun z => Wx d 123 139 ls (vi z :: st) σ Q) := u_iload_n d123_138
theorem d123_139 : decode (mB 123) 139 = .ok (.bipush (-12), 2) := by decide +kernel
theorem u123_139 {d : Nat} {ls : Lo} {st : List Va} {σ : Sg} {Q : Rs → Sg → Prop} : Wx d 123 139 ls st σ Q ↔ Wx d 123 141 ls (vi (-12) :: st) σ Q := u_bipush d123_139 (by decide)
theorem d123_141 : decode (mB 123) 141 = .ok (.if_icmp .ge 7, 3) := by decide +kernel
theorem u123_141 {d : Nat} {ls : Lo} {st : List Va} {σ : Sg} {Q : Rs → Sg → Prop} {a b : Int} (h : -2147483648 ≤ a ∧ a ≤ 2147483647) (h2 : -2147483648 ≤ b ∧ b ≤ 2147483647) : Wx d 123 141 ls (vi b :: vi a :: st) σ Q ↔ if b ≤ a then Wx d 123 148 ls st σ Q else Wx d 123 144 ls st σ Q := u_icge d123_141 (by decide) h h2
theorem d123_144 : decode (mB 123) 144 = .ok (.iconst 1, 1) := by decide +kernel
theorem u123_144 {d : Nat} {ls : Lo} {st : List Va} {σ : Sg} {Q : Rs → Sg → Prop} : Wx d 123 144 ls st σ Q ↔ Wx d 123 145 ls (vi 1 :: st) σ Q := u_iconst d123_144
theorem d123_145 : decode (mB 123) 145 = .ok (.goto 4, 3) := by decide +kernel
theorem u123_145 {d : Nat} {ls : Lo} {st : List Va} {σ : Sg} {Q : Rs → Sg → Prop} : Wx d 123 145 ls st σ Q ↔ Wx d 123 149 ls st σ Q := u_goto d123_145 (by decide)
theorem d123_148 : decode (mB 123) 148 = .ok (.iconst 0, 1) := by decide +kernel
theorem u123_148 {d : Nat} {ls : Lo} {st : List Va} {σ : Sg} {Q : Rs → Sg → Prop} : Wx d 123 148 ls st σ Q ↔ Wx d 123 149 ls (vi 0 :: st) σ Q := u_iconst d123_148
theorem d123_149 : decode (mB 123) 149 = .ok (.invokevirtual 256, 3) := by decide +kernel
theorem u123_149 {d : Nat} {ls : Lo} {st : List Va} {σ : Sg} {Q : Rs → Sg → Prop} {g j : Nat} {a1 a2 a3 a4 : Va} : Wx (d + 1) 123 149 ls (a4 :: a3 :: a2 :: a1 :: vr g j :: st) σ Q ↔ (isO g j 7 ∧ st.length ≤ 4 ∧ nlg [a4, a3, a2, a1] = true) ∧ Wm d 121 [vr g j, a1, a2, a3, a4] σ (Kc (d + 1) 123 152 ls st Q) := u_inv4 d123_149 rfl rfl rfl
theorem d123_152 : decode (mB 123) 152 = .ok (.iinc 2 1, 3) := by decide +kernel
theorem u123_152 {d : Nat} {ls : Lo} {st : List Va} {σ : Sg} {Q : Rs → Sg → Prop} : Wx d 123 152 ls st σ Q ↔ Li (lget ls 2) (fun z => Wx d 123 155 (lset ls 2 (vi (z + 1))) st σ Q) := u_iinc d123_152 (by decide)
theorem d123_155 : decode (mB 123) 155 = .ok (.goto (-52), 3) := by decide +kernel
theorem u123_155 {d : Nat} {ls : Lo} {st : List Va} {σ : Sg} {Q : Rs → Sg → Prop} : Wx d 123 155 ls st σ Q ↔ Wx d 123 103 ls st σ Q := u_goto d123_155 (by decide)
theorem d123_158 : decode (mB 123) 158 = .ok (.iconst 0, 1) := by decide +kernel
theorem u123_158 {d : Nat} {ls : Lo} {st : List Va} {σ : Sg} {Q : Rs → Sg → Prop} : Wx d 123 158 ls st σ Q ↔ Wx d 123 159 ls (vi 0 :: st) σ Q := u_iconst d123_158
theorem d123_159 : decode (mB 123) 159 = .ok (.istore_n 2, 1) := by decide +kernel
theorem u123_159 {d : Nat} {ls : Lo} {st : List Va} {σ : Sg} {Q : Rs → Sg → Prop} {z : Int} : Wx d 123 159 ls (vi z :: st) σ Q ↔ Wx d 123 160 (lset ls 2 (vi z)) st σ Q := u_istore_n d123_159 (by decide)
theorem d123_160 : decode (mB 123) 160 = .ok (.iload_n 2, 1) := by decide +kernel
theorem u123_160 {d : Nat} {ls : Lo} {st : List Va} {σ : Sg} {Q : Rs → Sg → Prop} : Wx d 123 160 ls st σ Q ↔ Li (lget ls 2) (fun z => Wx d 123 161 ls (vi z :: st) σ Q) := u_iload_n d123_160
theorem d123_161 : decode (mB 123) 161 = .ok (.iconst 3, 1) := by decide +kernel
theorem u123_161 {d : Nat} {ls : Lo} {st : List Va} {σ : Sg} {Q : Rs → Sg → Prop} : Wx d 123 161 ls st σ Q ↔ Wx d 123 162 ls (vi 3 :: st) σ Q := u_iconst d123_161
theorem d123_162 : decode (mB 123) 162 = .ok (.if_icmp .ge 43, 3) := by decide +kernel
theorem u123_162 {d : Nat} {ls : Lo} {st : List Va} {σ : Sg} {Q : Rs → Sg → Prop} {a b : Int} (h : -2147483648 ≤ a ∧ a ≤ 2147483647) (h2 : -2147483648 ≤ b ∧ b ≤ 2147483647) : Wx d 123 162 ls (vi b :: vi a :: st) σ Q ↔ if b ≤ a then Wx d 123 205 ls st σ Q else Wx d 123 165 ls st σ Q := u_icge d123_162 (by decide) h h2
theorem d123_165 : decode (mB 123) 165 = .ok (.aload_n 0, 1) := by decide +kernel
theorem u123_165 {d : Nat} {ls : Lo} {st : List Va} {σ : Sg} {Q : Rs → Sg → Prop} : Wx d 123 165 ls st σ Q ↔ Lr (lget ls 0) (fun z => Wx d 123 166 ls (.inr (.inl z) :: st) σ Q) := u_aload_n d123_165
theorem d123_166 : decode (mB 123) 166 = .ok (.iload_n 1, 1) := by decide +kernel
theorem u123_166 {d : Nat} {ls : Lo} {st : List Va} {σ : Sg} {Q : Rs → Sg → Prop} : Wx d 123 166 ls st σ Q ↔ Li (lget ls 1) (fun z => Wx d 123 167 ls (vi z :: st) σ Q) := u_iload_n d123_166
theorem d123_167 : decode (mB 123) 167 = .ok (.iconst 3, 1) := by decide +kernel
theorem u123_167 {d : Nat} {ls : Lo} {st : List Va} {σ : Sg} {Q : Rs → Sg → Prop} : Wx d 123 167 ls st σ Q ↔ Wx d 123 168 ls (vi 3 :: st) σ Q := u_iconst d123_167
theorem d123_168 : decode (mB 123) 168 = .ok (.iload_n 2, 1) := by decide +kernel
theorem u123_168 {d : Nat} {ls : Lo} {st : List Va} {σ : Sg} {Q : Rs → Sg → Prop} : Wx d 123 168 ls st σ Q ↔ Li (lget ls 2) (fun z => Wx d 123 169 ls (vi z :: st) σ Q) := u_iload_n d123_168
theorem d123_169 : decode (mB 123) 169 = .ok (.aload_n 0, 1) := by decide +kernel
theorem u123_169 {d : Nat} {ls : Lo} {st : List Va} {σ : Sg} {Q : Rs → Sg → Prop} : Wx d 123 169 ls st σ Q ↔ Lr (lget ls 0) (fun z => Wx d 123 170 ls (.inr (.inl z) :: st) σ Q) := u_aload_n d123_169
theorem d123_170 : decode (mB 123) 170 = .ok (.getfield 56, 3) := by decide +kernel
theorem u123_170 {d : Nat} {ls : Lo} {st : List Va} {σ : Sg} {Q : Rs → Sg → Prop} {g j : Nat} : Wx d 123 170 ls (vr g j :: st) σ Q ↔ isO g j 7 ∧ Wx d 123 173 ls (fvv σ g j 23 :: st) σ Q := u_get (w := (7, 23)) d123_170 rfl
theorem d123_173 : decode (mB 123) 173 = .ok (.bipush 12, 2) := by decide +kernel
theorem u123_173 {d : Nat} {ls : Lo} {st : List Va} {σ : Sg} {Q : Rs → Sg → Prop} : Wx d 123 173 ls st σ Q ↔ Wx d 123 175 ls (vi 12 :: st) σ Q := u_bipush d123_173 (by decide)
theorem d123_175 : decode (mB 123) 175 = .ok (.iload_n 1, 1) := by decide +kernel
theorem u123_175 {d : Nat} {ls : Lo} {st : List Va} {σ : Sg} {Q : Rs → Sg → Prop} : Wx d 123 175 ls st σ Q ↔ Li (lget ls 1) (fun z => Wx d 123 176 ls (vi z :: st) σ Q) := u_iload_n d123_175
theorem d123_176 : decode (mB 123) 176 = .ok (.imul, 1) := by decide +kernel
theorem u123_176 {d : Nat} {ls : Lo} {st : List Va} {σ : Sg} {Q : Rs → Sg → Prop} {a b : Int} : Wx d 123 176 ls (vi b :: vi a :: st) σ Q ↔ Wx d 123 177 ls (vi (a * b) :: st) σ Q := u_imul d123_176
theorem d123_177 : decode (mB 123) 177 = .ok (.aload_n 0, 1) := by decide +kernel
theorem u123_177 {d : Nat} {ls : Lo} {st : List Va} {σ : Sg} {Q : Rs → Sg → Prop} : Wx d 123 177 ls st σ Q ↔ Lr (lget ls 0) (fun z => Wx d 123 178 ls (.inr (.inl z) :: st) σ Q) := u_aload_n d123_177
theorem d123_178 : decode (mB 123) 178 = .ok (.getfield 102, 3) := by decide +kernel
theorem u123_178 {d : Nat} {ls : Lo} {st : List Va} {σ : Sg} {Q : Rs → Sg → Prop} {g j : Nat} : Wx d 123 178 ls (vr g j :: st) σ Q ↔ isO g j 7 ∧ Wx d 123 181 ls (fvv σ g j 40 :: st) σ Q := u_get (w := (7, 40)) d123_178 rfl
theorem d123_181 : decode (mB 123) 181 = .ok (.iload_n 2, 1) := by decide +kernel
theorem u123_181 {d : Nat} {ls : Lo} {st : List Va} {σ : Sg} {Q : Rs → Sg → Prop} : Wx d 123 181 ls st σ Q ↔ Li (lget ls 2) (fun z => Wx d 123 182 ls (vi z :: st) σ Q) := u_iload_n d123_181
theorem d123_182 : decode (mB 123) 182 = .ok (.iaload, 1) := by decide +kernel
theorem u123_182 {d : Nat} {ls : Lo} {st : List Va} {σ : Sg} {Q : Rs → Sg → Prop} {z : Int} {g j : Nat} : Wx d 123 182 ls (vi z :: vr g j :: st) σ Q ↔ On (ial σ g j z) (fun x => Wx d 123 183 ls (vi x :: st) σ Q) := u_iald d123_182
theorem d123_183 : decode (mB 123) 183 = .ok (.bipush 12, 2) := by decide +kernel
theorem u123_183 {d : Nat} {ls : Lo} {st : List Va} {σ : Sg} {Q : Rs → Sg → Prop} : Wx d 123 183 ls st σ Q ↔ Wx d 123 185 ls (vi 12 :: st) σ Q := u_bipush d123_183 (by decide)
theorem d123_185 : decode (mB 123) 185 = .ok (.irem, 1) := by decide +kernel
theorem u123_185 {d : Nat} {ls : Lo} {st : List Va} {σ : Sg} {Q : Rs → Sg → Prop} {a b : Int} (h : (-2147483648 ≤ a ∧ a ≤ 2147483647) ∧ 0 < b ∧ b ≤ 2147483647) : Wx d 123 185 ls (vi b :: vi a :: st) σ Q ↔ Wx d 123 186 ls (vi (Int.tmod a b) :: st) σ Q := u_irem d123_185 h
theorem d123_186 : decode (mB 123) 186 = .ok (.iadd, 1) := by decide +kernel
theorem u123_186 {d : Nat} {ls : Lo} {st : List Va} {σ : Sg} {Q : Rs → Sg → Prop} {a b : Int} : Wx d 123 186 ls (vi b :: vi a :: st) σ Q ↔ Wx d 123 187 ls (vi (a + b) :: st) σ Q := u_iadd d123_186
theorem d123_187 : decode (mB 123) 187 = .ok (.iaload, 1) := by decide +kernel
theorem u123_187 {d : Nat} {ls : Lo} {st : List Va} {σ : Sg} {Q : Rs → Sg → Prop} {z : Int} {g j : Nat} : Wx d 123 187 ls (vi z :: vr g j :: st) σ Q ↔ On (ial σ g j z) (fun x => Wx d 123 188 ls (vi x :: st) σ Q) := u_iald d123_187
theorem d123_188 : decode (mB 123) 188 = .ok (.ifCond .ge 7, 3) := by decide +kernel
theorem u123_188 {d : Nat} {ls : Lo} {st : List Va} {σ : Sg} {Q : Rs → Sg → Prop} {a : Int} (h : -2147483648 ≤ a ∧ a ≤ 2147483647) : Wx d 123 188 ls (vi a :: st) σ Q ↔ if 0 ≤ a then Wx d 123 195 ls st σ Q else Wx d 123 191 ls st σ Q := u_ifge d123_188 (by decide) h
theorem d123_191 : decode (mB 123) 191 = .ok (.iconst 1, 1) := by decide +kernel
theorem u123_191 {d : Nat} {ls : Lo} {st : List Va} {σ : Sg} {Q : Rs → Sg → Prop} : Wx d 123 191 ls st σ Q ↔ Wx d 123 192 ls (vi 1 :: st) σ Q := u_iconst d123_191
theorem d123_192 : decode (mB 123) 192 = .ok (.goto 4, 3) := by decide +kernel
theorem u123_192 {d : Nat} {ls : Lo} {st : List Va} {σ : Sg} {Q : Rs → Sg → Prop} : Wx d 123 192 ls st σ Q ↔ Wx d 123 196 ls st σ Q := u_goto d123_192 (by decide)
theorem d123_195 : decode (mB 123) 195 = .ok (.iconst 0, 1) := by decide +kernel
theorem u123_195 {d : Nat} {ls : Lo} {st : List Va} {σ : Sg} {Q : Rs → Sg → Prop} : Wx d 123 195 ls st σ Q ↔ Wx d 123 196 ls (vi 0 :: st) σ Q := u_iconst d123_195
theorem d123_196 : decode (mB 123) 196 = .ok (.invokevirtual 256, 3) := by decide +kernel
theorem u123_196 {d : Nat} {ls : Lo} {st : List Va} {σ : Sg} {Q : Rs → Sg → Prop} {g j : Nat} {a1 a2 a3 a4 : Va} : Wx (d + 1) 123 196 ls (a4 :: a3 :: a2 :: a1 :: vr g j :: st) σ Q ↔ (isO g j 7 ∧ st.length ≤ 4 ∧ nlg [a4, a3, a2, a1] = true) ∧ Wm d 121 [vr g j, a1, a2, a3, a4] σ (Kc (d + 1) 123 199 ls st Q) := u_inv4 d123_196 rfl rfl rfl
theorem d123_199 : decode (mB 123) 199 = .ok (.iinc 2 1, 3) := by decide +kernel
theorem u123_199 {d : Nat} {ls : Lo} {st : List Va} {σ : Sg} {Q : Rs → Sg → Prop} : Wx d 123 199 ls st σ Q ↔ Li (lget ls 2) (fun z => Wx d 123 202 (lset ls 2 (vi (z + 1))) st σ Q) := u_iinc d123_199 (by decide)
theorem d123_202 : decode (mB 123) 202 = .ok (.goto (-42), 3) := by decide +kernel
theorem u123_202 {d : Nat} {ls : Lo} {st : List Va} {σ : Sg} {Q : Rs → Sg → Prop} : Wx d 123 202 ls st σ Q ↔ Wx d 123 160 ls st σ Q := u_goto d123_202 (by decide)
theorem d123_205 : decode (mB 123) 205 = .ok (.return_, 1) := by decide +kernel
theorem u123_205 {d : Nat} {ls : Lo} {σ : Sg} {Q : Rs → Sg → Prop} : Wx d 123 205 ls [] σ Q ↔ Q (.inl none) σ := u_vret d123_205 rfl
/-! 124: FiguredBassModel.markRules(I)V -/
theorem d124_0 : decode (mB 124) 0 = .ok (.iconst 0, 1) := by decide +kernel
theorem u124_0 {d : Nat} {ls : Lo} {st : List Va} {σ : Sg} {Q : Rs → Sg → Prop} : Wx d 124 0 ls st σ Q ↔ Wx d 124 1 ls (vi 0 :: st) σ Q := u_iconst d124_0
theorem d124_1 : decode (mB 124) 1 = .ok (.istore_n 2, 1) := by decide +kernel
theorem u124_1 {d : Nat} {ls : Lo} {st : List Va} {σ : Sg} {Q : Rs → Sg → Prop} {z : Int} : Wx d 124 1 ls (vi z :: st) σ Q ↔ Wx d 124 2 (lset ls 2 (vi z)) st σ Q := u_istore_n d124_1 (by decide)
theorem d124_2 : decode (mB 124) 2 = .ok (.iload_n 2, 1) := by decide +kernel
theorem u124_2 {d : Nat} {ls : Lo} {st : List Va} {σ : Sg} {Q : Rs → Sg → Prop} : Wx d 124 2 ls st σ Q ↔ Li (lget ls 2) (fun z => Wx d 124 3 ls (vi z :: st) σ Q) := u_iload_n d124_2
theorem d124_3 : decode (mB 124) 3 = .ok (.iconst 4, 1) := by decide +kernel
theorem u124_3 {d : Nat} {ls : Lo} {st : List Va} {σ : Sg} {Q : Rs → Sg → Prop} : Wx d 124 3 ls st σ Q ↔ Wx d 124 4 ls (vi 4 :: st) σ Q := u_iconst d124_3
theorem d124_4 : decode (mB 124) 4 = .ok (.if_icmp .ge 41, 3) := by decide +kernel
theorem u124_4 {d : Nat} {ls : Lo} {st : List Va} {σ : Sg} {Q : Rs → Sg → Prop} {a b : Int} (h : -2147483648 ≤ a ∧ a ≤ 2147483647) (h2 : -2147483648 ≤ b ∧ b ≤ 2147483647) : Wx d 124 4 ls (vi b :: vi a :: st) σ Q ↔ if b ≤ a then Wx d 124 45 ls st σ Q else Wx d 124 7 ls st σ Q := u_icge d124_4 (by decide) h h2
theorem d124_7 : decode (mB 124) 7 = .ok (.iload_n 2, 1) := by decide +kernel
theorem u124_7 {d : Nat} {ls : Lo} {st : List Va} {σ : Sg} {Q : Rs → Sg → Prop} : Wx d 124 7 ls st σ Q ↔ Li (lget ls 2) (fun z => Wx d 124 8 ls (vi z :: st) σ Q) := u_iload_n d124_7
theorem d124_8 : decode (mB 124) 8 = .ok (.iconst 1, 1) := by decide +kernel
theorem u124_8 {d : Nat} {ls : Lo} {st : List Va} {σ : Sg} {Q : Rs → Sg → Prop} : Wx d 124 8 ls st σ Q ↔ Wx d 124 9 ls (vi 1 :: st) σ Q := u_iconst d124_8
theorem d124_9 : decode (mB 124) 9 = .ok (.iadd, 1) := by decide +kernel
theorem u124_9 {d : Nat} {ls : Lo} {st : List Va} {σ : Sg} {Q : Rs → Sg → Prop} {a b : Int} : Wx d 124 9 ls (vi b :: vi a :: st) σ Q ↔ Wx d 124 10 ls (vi (a + b) :: st) σ Q := u_iadd d124_9
theorem d124_10 : decode (mB 124) 10 = .ok (.istore_n 3, 1) := by decide +kernel
theorem u124_10 {d : Nat} {ls : Lo} {st : List Va} {σ : Sg} {Q : Rs → Sg → Prop} {z : Int} : Wx d 124 10 ls (vi z :: st) σ Q ↔ Wx d 124 11 (lset ls 3 (vi z)) st σ Q := u_istore_n d124_10 (by decide)
theorem d124_11 : decode (mB 124) 11 = .ok (.iload_n 3, 1) := by decide +kernel
theorem u124_11 {d : Nat} {ls : Lo} {st : List Va} {σ : Sg} {Q : Rs → Sg → Prop} : Wx d 124 11 ls st σ Q ↔ Li (lget ls 3) (fun z => Wx d 124 12 ls (vi z :: st) σ Q) := u_iload_n d124_11
theorem d124_12 : decode (mB 124) 12 = .ok (.iconst 4, 1) := by decide +kernel
theorem u124_12 {d : Nat} {ls : Lo} {st : List Va} {σ : Sg} {Q : Rs → Sg → Prop} : Wx d 124 12 ls st σ Q ↔ Wx d 124 13 ls (vi 4 :: st) σ Q := u_iconst d124_12
theorem d124_13 : decode (mB 124) 13 = .ok (.if_icmp .ge 26, 3) := by decide +kernel
theorem u124_13 {d : Nat} {ls : Lo} {st : List Va} {σ : Sg} {Q : Rs → Sg → Prop} {a b : Int} (h : -2147483648 ≤ a ∧ a ≤ 2147483647) (h2 : -2147483648 ≤ b ∧ b ≤ 2147483647) : Wx d 124 13 ls (vi b :: vi a :: st) σ Q ↔ if b ≤ a then Wx d 124 39 ls st σ Q else Wx d 124 16 ls st σ Q := u_icge d124_13 (by decide) h h2
theorem d124_16 : decode (mB 124) 16 = .ok (.aload_n 0, 1) := by decide +kernel
theorem u124_16 {d : Nat} {ls : Lo} {st : List Va} {σ : Sg} {Q : Rs → Sg → Prop} : Wx d 124 16 ls st σ Q ↔ Lr (lget ls 0) (fun z => Wx d 124 17 ls (.inr (.inl z) :: st) σ Q) := u_aload_n d124_16
theorem d124_17 : decode (mB 124) 17 = .ok (.iload_n 1, 1) := by decide +kernel
theorem u124_17 {d : Nat} {ls : Lo} {st : List Va} {σ : Sg} {Q : Rs → Sg → Prop} : Wx d 124 17 ls st σ Q ↔ Li (lget ls 1) (fun z => Wx d 124 18 ls (vi z :: st) σ Q) := u_iload_n d124_17
theorem d124_18 : decode (mB 124) 18 = .ok (.iconst 4, 1) := by decide +kernel
theorem u124_18 {d : Nat} {ls : Lo} {st : List Va} {σ : Sg} {Q : Rs → Sg → Prop} : Wx d 124 18 ls st σ Q ↔ Wx d 124 19 ls (vi 4 :: st) σ Q := u_iconst d124_18
theorem d124_19 : decode (mB 124) 19 = .ok (.iconst 4, 1) := by decide +kernel
theorem u124_19 {d : Nat} {ls : Lo} {st : List Va} {σ : Sg} {Q : Rs → Sg → Prop} : Wx d 124 19 ls st σ Q ↔ Wx d 124 20 ls (vi 4 :: st) σ Q := u_iconst d124_19
theorem d124_20 : decode (mB 124) 20 = .ok (.iload_n 2, 1) := by decide +kernel
theorem u124_20 {d : Nat} {ls : Lo} {st : List Va} {σ : Sg} {Q : Rs → Sg → Prop} : Wx d 124 20 ls st σ Q ↔ Li (lget ls 2) (fun z => Wx d 124 21 ls (vi z :: st) σ Q) := u_iload_n d124_20
theorem d124_21 : decode (mB 124) 21 = .ok (.imul, 1) := by decide +kernel
theorem u124_21 {d : Nat} {ls : Lo} {st : List Va} {σ : Sg} {Q : Rs → Sg → Prop} {a b : Int} : Wx d 124 21 ls (vi b :: vi a :: st) σ Q ↔ Wx d 124 22 ls (vi (a * b) :: st) σ Q := u_imul d124_21
theorem d124_22 : decode (mB 124) 22 = .ok (.iload_n 3, 1) := by decide +kernel
theorem u124_22 {d : Nat} {ls : Lo} {st : List Va} {σ : Sg} {Q : Rs → Sg → Prop} : Wx d 124 22 ls st σ Q ↔ Li (lget ls 3) (fun z => Wx d 124 23 ls (vi z :: st) σ Q) := u_iload_n d124_22
theorem d124_23 : decode (mB 124) 23 = .ok (.iadd, 1) := by decide +kernel
theorem u124_23 {d : Nat} {ls : Lo} {st : List Va} {σ : Sg} {Q : Rs → Sg → Prop} {a b : Int} : Wx d 124 23 ls (vi b :: vi a :: st) σ Q ↔ Wx d 124 24 ls (vi (a + b) :: st) σ Q := u_iadd d124_23
theorem d124_24 : decode (mB 124) 24 = .ok (.aload_n 0, 1) := by decide +kernel
theorem u124_24 {d : Nat} {ls : Lo} {st : List Va} {σ : Sg} {Q : Rs → Sg → Prop} : Wx d 124 24 ls st σ Q ↔ Lr (lget ls 0) (fun z => Wx d 124 25 ls (.inr (.inl z) :: st) σ Q) := u_aload_n d124_24
theorem d124_25 : decode (mB 124) 25 = .ok (.iload_n 2, 1) := by decide +kernel
theorem u124_25 {d : Nat} {ls : Lo} {st : List Va} {σ : Sg} {Q : Rs → Sg → Prop} : Wx d 124 25 ls st σ Q ↔ Li (lget ls 2) (fun z => Wx d 124 26 ls (vi z :: st) σ Q) := u_iload_n d124_25
theorem d124_26 : decode (mB 124) 26 = .ok (.iload_n 3, 1) := by decide +kernel
theorem u124_26 {d : Nat} {ls : Lo} {st : List Va} {σ : Sg} {Q : Rs → Sg → Prop} : Wx d 124 26 ls st σ Q ↔ Li (lget ls 3) (fun z => Wx d 124 27 ls (vi z :: st) σ Q) := u_iload_n d124_26
theorem d124_27 : decode (mB 124) 27 = .ok (.invokevirtual 208, 3) := by decide +kernel
theorem u124_27 {d : Nat} {ls : Lo} {st : List Va} {σ : Sg} {Q : Rs → Sg → Prop} {g j : Nat} {a1 a2 : Va} : Wx (d + 1) 124 27 ls (a2 :: a1 :: vr g j :: st) σ Q ↔ (isO g j 7 ∧ st.length ≤ 4 ∧ nlg [a2, a1] = true) ∧ Wm d 101 [vr g j, a1, a2] σ (Kc (d + 1) 124 30 ls st Q) := u_inv2 d124_27 rfl rfl rfl
theorem d124_30 : decode (mB 124) 30 = .ok (.invokevirtual 256, 3) := by decide +kernel
theorem u124_30 {d : Nat} {ls : Lo} {st : List Va} {σ : Sg} {Q : Rs → Sg → Prop} {g j : Nat} {a1 a2 a3 a4 : Va} : Wx (d + 1) 124 30 ls (a4 :: a3 :: a2 :: a1 :: vr g j :: st) σ Q ↔ (isO g j 7 ∧ st.length ≤ 4 ∧ nlg [a4, a3, a2, a1] = true) ∧ Wm d 121 [vr g j, a1, a2, a3, a4] σ (Kc (d + 1) 124 33 ls st Q) := u_inv4 d124_30 rfl rfl rfl
theorem d124_33 : decode (mB 124) 33 = .ok (.iinc 3 1, 3) := by decide +kernel
theorem u124_33 {d : Nat} {ls : Lo} {st : List Va} {σ : Sg} {Q : Rs → Sg → Prop} : Wx d 124 33 ls st σ Q ↔ Li (lget ls 3) (fun z => Wx d 124 36 (lset ls 3 (vi (z + 1))) st σ Q) := u_iinc d124_33 (by decide)
theorem d124_36 : decode (mB 124) 36 = .ok (.goto (-25), 3) := by decide +kernel
theorem u124_36 {d : Nat} {ls : Lo} {st : List Va} {σ : Sg} {Q : Rs → Sg → Prop} : Wx d 124 36 ls st σ Q ↔ Wx d 124 11 ls st σ Q := u_goto d124_36 (by decide)
theorem d124_39 : decode (mB 124) 39 = .ok (.iinc 2 1, 3) := by decide +kernel
theorem u124_39 {d : Nat} {ls : Lo} {st : List Va} {σ : Sg} {Q : Rs → Sg → Prop} : Wx d 124 39 ls st σ Q ↔ Li (lget ls 2) (fun z => Wx d 124 42 (lset ls 2 (vi (z + 1))) st σ Q) := u_iinc d124_39 (by decide)
theorem d124_42 : decode (mB 124) 42 = .ok (.goto (-40), 3) := by decide +kernel
theorem u124_42 {d : Nat} {ls : Lo} {st : List Va} {σ : Sg} {Q : Rs → Sg → Prop} : Wx d 124 42 ls st σ Q ↔ Wx d 124 2 ls st σ Q := u_goto d124_42 (by decide)
theorem d124_45 : decode (mB 124) 45 = .ok (.iconst 0, 1) := by decide +kernel
theorem u124_45 {d : Nat} {ls : Lo} {st : List Va} {σ : Sg} {Q : Rs → Sg → Prop} : Wx d 124 45 ls st σ Q ↔ Wx d 124 46 ls (vi 0 :: st) σ Q := u_iconst d124_45
theorem d124_46 : decode (mB 124) 46 = .ok (.istore_n 2, 1) := by decide +kernel
theorem u124_46 {d : Nat} {ls : Lo} {st : List Va} {σ : Sg} {Q : Rs → Sg → Prop} {z : Int} : Wx d 124 46 ls (vi z :: st) σ Q ↔ Wx d 124 47 (lset ls 2 (vi z)) st σ Q := u_istore_n d124_46 (by decide)
theorem d124_47 : decode (mB 124) 47 = .ok (.iload_n 2, 1) := by decide +kernel
theorem u124_47 {d : Nat} {ls : Lo} {st : List Va} {σ : Sg} {Q : Rs → Sg → Prop} : Wx d 124 47 ls st σ Q ↔ Li (lget ls 2) (fun z => Wx d 124 48 ls (vi z :: st) σ Q) := u_iload_n d124_47
theorem d124_48 : decode (mB 124) 48 = .ok (.iconst 4, 1) := by decide +kernel
theorem u124_48 {d : Nat} {ls : Lo} {st : List Va} {σ : Sg} {Q : Rs → Sg → Prop} : Wx d 124 48 ls st σ Q ↔ Wx d 124 49 ls (vi 4 :: st) σ Q := u_iconst d124_48
theorem d124_49 : decode (mB 124) 49 = .ok (.if_icmp .ge 21, 3) := by decide +kernel
theorem u124_49 {d : Nat} {ls : Lo} {st : List Va} {σ : Sg} {Q : Rs → Sg → Prop} {a b : Int} (h : -2147483648 ≤ a ∧ a ≤ 2147483647) (h2 : -2147483648 ≤ b ∧ b ≤ 2147483647) : Wx d 124 49 ls (vi b :: vi a :: st) σ Q ↔ if b ≤ a then Wx d 124 70 ls st σ Q else Wx d 124 52 ls st σ Q := u_icge d124_49 (by decide) h h2
theorem d124_52 : decode (mB 124) 52 = .ok (.aload_n 0, 1) := by decide +kernel
theorem u124_52 {d : Nat} {ls : Lo} {st : List Va} {σ : Sg} {Q : Rs → Sg → Prop} : Wx d 124 52 ls st σ Q ↔ Lr (lget ls 0) (fun z => Wx d 124 53 ls (.inr (.inl z) :: st) σ Q) := u_aload_n d124_52
theorem d124_53 : decode (mB 124) 53 = .ok (.iload_n 1, 1) := by decide +kernel
theorem u124_53 {d : Nat} {ls : Lo} {st : List Va} {σ : Sg} {Q : Rs → Sg → Prop} : Wx d 124 53 ls st σ Q ↔ Li (lget ls 1) (fun z => Wx d 124 54 ls (vi z :: st) σ Q) := u_iload_n d124_53
theorem d124_54 : decode (mB 124) 54 = .ok (.iconst 5, 1) := by decide +kernel
theorem u124_54 {d : Nat} {ls : Lo} {st : List Va} {σ : Sg} {Q : Rs → Sg → Prop} : Wx d 124 54 ls st σ Q ↔ Wx d 124 55 ls (vi 5 :: st) σ Q := u_iconst d124_54
theorem d124_55 : decode (mB 124) 55 = .ok (.iload_n 2, 1) := by decide +kernel
theorem u124_55 {d : Nat} {ls : Lo} {st : List Va} {σ : Sg} {Q : Rs → Sg → Prop} : Wx d 124 55 ls st σ Q ↔ Li (lget ls 2) (fun z => Wx d 124 56 ls (vi z :: st) σ Q) := u_iload_n d124_55
theorem d124_56 : decode (mB 124) 56 = .ok (.aload_n 0, 1) := by decide +kernel
theorem u124_56 {d : Nat} {ls : Lo} {st : List Va} {σ : Sg} {Q : Rs → Sg → Prop} : Wx d 124 56 ls st σ Q ↔ Lr (lget ls 0) (fun z => Wx d 124 57 ls (.inr (.inl z) :: st) σ Q) := u_aload_n d124_56
theorem d124_57 : decode (mB 124) 57 = .ok (.iload_n 2, 1) := by decide +kernel
theorem u124_57 {d : Nat} {ls : Lo} {st : List Va} {σ : Sg} {Q : Rs → Sg → Prop} : Wx d 124 57 ls st σ Q ↔ Li (lget ls 2) (fun z => Wx d 124 58 ls (vi z :: st) σ Q) := u_iload_n d124_57
theorem d124_58 : decode (mB 124) 58 = .ok (.invokevirtual 198, 3) := by decide +kernel
theorem u124_58 {d : Nat} {ls : Lo} {st : List Va} {σ : Sg} {Q : Rs → Sg → Prop} {g j : Nat} {a1 : Va} : Wx (d + 1) 124 58 ls (a1 :: vr g j :: st) σ Q ↔ (isO g j 7 ∧ st.length ≤ 4 ∧ nlg [a1] = true) ∧ Wm d 102 [vr g j, a1] σ (Kc (d + 1) 124 61 ls st Q) := u_inv1 d124_58 rfl rfl rfl
theorem d124_61 : decode (mB 124) 61 = .ok (.invokevirtual 256, 3) := by decide +kernel
theorem u124_61 {d : Nat} {ls : Lo} {st : List Va} {σ : Sg} {Q : Rs → Sg → Prop} {g j : Nat} {a1 a2 a3 a4 : Va} : Wx (d + 1) 124 61 ls (a4 :: a3 :: a2 :: a1 :: vr g j :: st) σ Q ↔ (isO g j 7 ∧ st.length ≤ 4 ∧ nlg [a4, a3, a2, a1] = true) ∧ Wm d 121 [vr g j, a1, a2, a3, a4] σ (Kc (d + 1) 124 64 ls st Q) := u_inv4 d124_61 rfl rfl rfl
theorem d124_64 : decode (mB 124) 64 = .ok (.iinc 2 1, 3) := by decide +kernel
theorem u124_64 {d : Nat} {ls : Lo} {st : List Va} {σ : Sg} {Q : Rs → Sg → Prop} : Wx d 124 64 ls st σ Q ↔ Li (lget ls 2) (fun z => Wx d 124 67 (lset ls 2 (vi (z + 1))) st σ Q) := u_iinc d124_64 (by decide)
theorem d124_67 : decode (mB 124) 67 = .ok (.goto (-20), 3) := by decide +kernel
theorem u124_67 {d : Nat} {ls : Lo} {st : List Va} {σ : Sg} {Q : Rs → Sg → Prop} : Wx d 124 67 ls st σ Q ↔ Wx d 124 47 ls st σ Q := u_goto d124_67 (by decide)
theorem d124_70 : decode (mB 124) 70 = .ok (.iconst 0, 1) := by decide +kernel
theorem u124_70 {d : Nat} {ls : Lo} {st : List Va} {σ : Sg} {Q : Rs → Sg → Prop} : Wx d 124 70 ls st σ Q ↔ Wx d 124 71 ls (vi 0 :: st) σ Q := u_iconst d124_70
theorem d124_71 : decode (mB 124) 71 = .ok (.istore_n 2, 1) := by decide +kernel
theorem u124_71 {d : Nat} {ls : Lo} {st : List Va} {σ : Sg} {Q : Rs → Sg → Prop} {z : Int} : Wx d 124 71 ls (vi z :: st) σ Q ↔ Wx d 124 72 (lset ls 2 (vi z)) st σ Q := u_istore_n d124_71 (by decide)
theorem d124_72 : decode (mB 124) 72 = .ok (.iload_n 2, 1) := by decide +kernel
theorem u124_72 {d : Nat} {ls : Lo} {st : List Va} {σ : Sg} {Q : Rs → Sg → Prop} : Wx d 124 72 ls st σ Q ↔ Li (lget ls 2) (fun z => Wx d 124 73 ls (vi z :: st) σ Q) := u_iload_n d124_72
theorem d124_73 : decode (mB 124) 73 = .ok (.iconst 4, 1) := by decide +kernel
theorem u124_73 {d : Nat} {ls : Lo} {st : List Va} {σ : Sg} {Q : Rs → Sg → Prop} : Wx d 124 73 ls st σ Q ↔ Wx d 124 74 ls (vi 4 :: st) σ Q := u_iconst d124_73
theorem d124_74 : decode (mB 124) 74 = .ok (.if_icmp .ge 23, 3) := by decide +kernel
theorem u124_74 {d : Nat} {ls : Lo} {st : List Va} {σ : Sg} {Q : Rs → Sg → Prop} {a b : Int} (h : -2147483648 ≤ a ∧ a ≤ 2147483647) (h2 : -2147483648 ≤ b ∧ b ≤ 2147483647) : Wx d 124 74 ls (vi b :: vi a :: st) σ Q ↔ if b ≤ a then Wx d 124 97 ls st σ Q else Wx d 124 77 ls st σ Q := u_icge d124_74 (by decide) h h2
theorem d124_77 : decode (mB 124) 77 = .ok (.aload_n 0, 1) := by decide +kernel
theorem u124_77 {d : Nat} {ls : Lo} {st : List Va} {σ : Sg} {Q : Rs → Sg → Prop} : Wx d 124 77 ls st σ Q ↔ Lr (lget ls 0) (fun z => Wx d 124 78 ls (.inr (.inl z) :: st) σ Q) := u_aload_n d124_77
theorem d124_78 : decode (mB 124) 78 = .ok (.iload_n 1, 1) := by decide +kernel
theorem u124_78 {d : Nat} {ls : Lo} {st : List Va} {σ : Sg} {Q : Rs → Sg → Prop} : Wx d 124 78 ls st σ Q ↔ Li (lget ls 1) (fun z => Wx d 124 79 ls (vi z :: st) σ Q) := u_iload_n d124_78
theorem d124_79 : decode (mB 124) 79 = .ok (.bipush 6, 2) := by decide +kernel
theorem u124_79 {d : Nat} {ls : Lo} {st : List Va} {σ : Sg} {Q : Rs → Sg → Prop} : Wx d 124 79 ls st σ Q ↔ Wx d 124 81 ls (vi 6 :: st) σ Q := u_bipush d124_79 (by decide)
theorem d124_81 : decode (mB 124) 81 = .ok (.iload_n 2, 1) := by decide +kernel
theorem u124_81 {d : Nat} {ls : Lo} {st : List Va} {σ : Sg} {Q : Rs → Sg → Prop} : Wx d 124 81 ls st σ Q ↔ Li (lget ls 2) (fun z => Wx d 124 82 ls (vi z :: st) σ Q) := u_iload_n d124_81
theorem d124_82 : decode (mB 124) 82 = .ok (.aload_n 0, 1) := by decide +kernel
theorem u124_82 {d : Nat} {ls : Lo} {st : List Va} {σ : Sg} {Q : Rs → Sg → Prop} : Wx d 124 82 ls st σ Q ↔ Lr (lget ls 0) (fun z => Wx d 124 83 ls (.inr (.inl z) :: st) σ Q) := u_aload_n d124_82
theorem d124_83 : decode (mB 124) 83 = .ok (.iload_n 1, 1) := by decide +kernel
theorem u124_83 {d : Nat} {ls : Lo} {st : List Va} {σ : Sg} {Q : Rs → Sg → Prop} : Wx d 124 83 ls st σ Q ↔ Li (lget ls 1) (fun z => Wx d 124 84 ls (vi z :: st) σ Q) := u_iload_n d124_83
theorem d124_84 : decode (mB 124) 84 = .ok (.iload_n 2, 1) := by decide +kernel
theorem u124_84 {d : Nat} {ls : Lo} {st : List Va} {σ : Sg} {Q : Rs → Sg → Prop} : Wx d 124 84 ls st σ Q ↔ Li (lget ls 2) (fun z => Wx d 124 85 ls (vi z :: st) σ Q) := u_iload_n d124_84
theorem d124_85 : decode (mB 124) 85 = .ok (.invokevirtual 201, 3) := by decide +kernel
theorem u124_85 {d : Nat} {ls : Lo} {st : List Va} {σ : Sg} {Q : Rs → Sg → Prop} {g j : Nat} {a1 a2 : Va} : Wx (d + 1) 124 85 ls (a2 :: a1 :: vr g j :: st) σ Q ↔ (isO g j 7 ∧ st.length ≤ 4 ∧ nlg [a2, a1] = true) ∧ Wm d 103 [vr g j, a1, a2] σ (Kc (d + 1) 124 88 ls st Q) := u_inv2 d124_85 rfl rfl rfl
theorem d124_88 : decode (mB 124) 88 = .ok (.invokevirtual 256, 3) := by decide +kernel
theorem u124_88 {d : Nat} {ls : Lo} {st : List Va} {σ : Sg} {Q : Rs → Sg → Prop} {g j : Nat} {a1 a2 a3 a4 : Va} : Wx (d + 1) 124 88 ls (a4 :: a3 :: a2 :: a1 :: vr g j :: st) σ Q ↔ (isO g j 7 ∧ st.length ≤ 4 ∧ nlg [a4, a3, a2, a1] = true) ∧ Wm d 121 [vr g j, a1, a2, a3, a4] σ (Kc (d + 1) 124 91 ls st Q) := u_inv4 d124_88 rfl rfl rfl
theorem d124_91 : decode (mB 124) 91 = .ok (.iinc 2 1, 3) := by decide +kernel
theorem u124_91 {d : Nat} {ls : Lo} {st : List Va} {σ : Sg} {Q : Rs → Sg → Prop} : Wx d 124 91 ls st σ Q ↔ Li (lget ls 2) (fun z => Wx d 124 94 (lset ls 2 (vi (z + 1))) st σ Q) := u_iinc d124_91 (by decide)
theorem d124_94 : decode (mB 124) 94 = .ok (.goto (-22), 3) := by decide +kernel
theorem u124_94 {d : Nat} {ls : Lo} {st : List Va} {σ : Sg} {Q : Rs → Sg → Prop} : Wx d 124 94 ls st σ Q ↔ Wx d 124 72 ls st σ Q := u_goto d124_94 (by decide)
theorem d124_97 : decode (mB 124) 97 = .ok (.iconst 0, 1) := by decide +kernel
theorem u124_97 {d : Nat} {ls : Lo} {st : List Va} {σ : Sg} {Q : Rs → Sg → Prop} : Wx d 124 97 ls st σ Q ↔ Wx d 124 98 ls (vi 0 :: st) σ Q := u_iconst d124_97
theorem d124_98 : decode (mB 124) 98 = .ok (.istore_n 2, 1) := by decide +kernel
theorem u124_98 {d : Nat} {ls : Lo} {st : List Va} {σ : Sg} {Q : Rs → Sg → Prop} {z : Int} : Wx d 124 98 ls (vi z :: st) σ Q ↔ Wx d 124 99 (lset ls 2 (vi z)) st σ Q := u_istore_n d124_98 (by decide)
theorem d124_99 : decode (mB 124) 99 = .ok (.iload_n 2, 1) := by decide +kernel
theorem u124_99 {d : Nat} {ls : Lo} {st : List Va} {σ : Sg} {Q : Rs → Sg → Prop} : Wx d 124 99 ls st σ Q ↔ Li (lget ls 2) (fun z => Wx d 124 100 ls (vi z :: st) σ Q) := u_iload_n d124_99
theorem d124_100 : decode (mB 124) 100 = .ok (.iconst 4, 1) := by decide +kernel
theorem u124_100 {d : Nat} {ls : Lo} {st : List Va} {σ : Sg} {Q : Rs → Sg → Prop} : Wx d 124 100 ls st σ Q ↔ Wx d 124 101 ls (vi 4 :: st) σ Q := u_iconst d124_100
theorem d124_101 : decode (mB 124) 101 = .ok (.if_icmp .ge 23, 3) := by decide +kernel
theorem u124_101 {d : Nat} {ls : Lo} {st : List Va} {σ : Sg} {Q : Rs → Sg → Prop} {a b : Int} (h : -2147483648 ≤ a ∧ a ≤ 2147483647) (h2 : -2147483648 ≤ b ∧ b ≤ 2147483647) : Wx d 124 101 ls (vi b :: vi a :: st) σ Q ↔ if b ≤ a then Wx d 124 124 ls st σ Q else Wx d 124 104 ls st σ Q := u_icge d124_101 (by decide) h h2
theorem d124_104 : decode (mB 124) 104 = .ok (.aload_n 0, 1) := by decide +kernel
theorem u124_104 {d : Nat} {ls : Lo} {st : List Va} {σ : Sg} {Q : Rs → Sg → Prop} : Wx d 124 104 ls st σ Q ↔ Lr (lget ls 0) (fun z => Wx d 124 105 ls (.inr (.inl z) :: st) σ Q) := u_aload_n d124_104
theorem d124_105 : decode (mB 124) 105 = .ok (.iload_n 1, 1) := by decide +kernel
theorem u124_105 {d : Nat} {ls : Lo} {st : List Va} {σ : Sg} {Q : Rs → Sg → Prop} : Wx d 124 105 ls st σ Q ↔ Li (lget ls 1) (fun z => Wx d 124 106 ls (vi z :: st) σ Q) := u_iload_n d124_105
theorem d124_106 : decode (mB 124) 106 = .ok (.bipush 7, 2) := by decide +kernel
theorem u124_106 {d : Nat} {ls : Lo} {st : List Va} {σ : Sg} {Q : Rs → Sg → Prop} : Wx d 124 106 ls st σ Q ↔ Wx d 124 108 ls (vi 7 :: st) σ Q := u_bipush d124_106 (by decide)
theorem d124_108 : decode (mB 124) 108 = .ok (.iload_n 2, 1) := by decide +kernel
theorem u124_108 {d : Nat} {ls : Lo} {st : List Va} {σ : Sg} {Q : Rs → Sg → Prop} : Wx d 124 108 ls st σ Q ↔ Li (lget ls 2) (fun z => Wx d 124 109 ls (vi z :: st) σ Q) := u_iload_n d124_108
theorem d124_109 : decode (mB 124) 109 = .ok (.aload_n 0, 1) := by decide +kernel
theorem u124_109 {d : Nat} {ls : Lo} {st : List Va} {σ : Sg} {Q : Rs → Sg → Prop} : Wx d 124 109 ls st σ Q ↔ Lr (lget ls 0) (fun z => Wx d 124 110 ls (.inr (.inl z) :: st) σ Q) := u_aload_n d124_109
theorem d124_110 : decode (mB 124) 110 = .ok (.iload_n 1, 1) := by decide +kernel
theorem u124_110 {d : Nat} {ls : Lo} {st : List Va} {σ : Sg} {Q : Rs → Sg → Prop} : Wx d 124 110 ls st σ Q ↔ Li (lget ls 1) (fun z => Wx d 124 111 ls (vi z :: st) σ Q) := u_iload_n d124_110
theorem d124_111 : decode (mB 124) 111 = .ok (.iload_n 2, 1) := by decide +kernel
theorem u124_111 {d : Nat} {ls : Lo} {st : List Va} {σ : Sg} {Q : Rs → Sg → Prop} : Wx d 124 111 ls st σ Q ↔ Li (lget ls 2) (fun z => Wx d 124 112 ls (vi z :: st) σ Q) := u_iload_n d124_111
theorem d124_112 : decode (mB 124) 112 = .ok (.invokevirtual 205, 3) := by decide +kernel
theorem u124_112 {d : Nat} {ls : Lo} {st : List Va} {σ : Sg} {Q : Rs → Sg → Prop} {g j : Nat} {a1 a2 : Va} : Wx (d + 1) 124 112 ls (a2 :: a1 :: vr g j :: st) σ Q ↔ (isO g j 7 ∧ st.length ≤ 4 ∧ nlg [a2, a1] = true) ∧ Wm d 104 [vr g j, a1, a2] σ (Kc (d + 1) 124 115 ls st Q) := u_inv2 d124_112 rfl rfl rfl
theorem d124_115 : decode (mB 124) 115 = .ok (.invokevirtual 256, 3) := by decide +kernel
theorem u124_115 {d : Nat} {ls : Lo} {st : List Va} {σ : Sg} {Q : Rs → Sg → Prop} {g j : Nat} {a1 a2 a3 a4 : Va} : Wx (d + 1) 124 115 ls (a4 :: a3 :: a2 :: a1 :: vr g j :: st) σ Q ↔ (isO g j 7 ∧ st.length ≤ 4 ∧ nlg [a4, a3, a2, a1] = true) ∧ Wm d 121 [vr g j, a1, a2, a3, a4] σ (Kc (d + 1) 124 118 ls st Q) := u_inv4 d124_115 rfl rfl rfl
theorem d124_118 : decode (mB 124) 118 = .ok (.iinc 2 1, 3) := by decide +kernel
theorem u124_118 {d : Nat} {ls : Lo} {st : List Va} {σ : Sg} {Q : Rs → Sg → Prop} : Wx d 124 118 ls st σ Q ↔ Li (lget ls 2) (fun z => Wx d 124 121 (lset ls 2 (vi (z + 1))) st σ Q) := u_iinc d124_118 (by decide)
theorem d124_121 : decode (mB 124) 121 = .ok (.goto (-22), 3) := by decide +kernel
theorem u124_121 {d : Nat} {ls : Lo} {st : List Va} {σ : Sg} {Q : Rs → Sg → Prop} : Wx d 124 121 ls st σ Q ↔ Wx d 124 99 ls st σ Q := u_goto d124_121 (by decide)
theorem d124_124 : decode (mB 124) 124 = .ok (.return_, 1) := by decide +kernel
theorem u124_124 {d : Nat} {ls : Lo} {σ : Sg} {Q : Rs → Sg → Prop} : Wx d 124 124 ls [] σ Q ↔ Q (.inl none) σ := u_vret d124_124 rfl
/-! 125: FiguredBassModel.markTones(I)V -/
theorem d125_0 : decode (mB 125) 0 = .ok (.aload_n 0, 1) := by decide +kernel
theorem u125_0 {d : Nat} {ls : Lo} {st : List Va} {σ : Sg} {Q : Rs → Sg → Prop} : Wx d 125 0 ls st σ Q ↔ Lr (lget ls 0) (fun z => Wx d 125 1 ls (.inr (.inl z) :: st) σ Q) := u_aload_n d125_0
theorem d125_1 : decode (mB 125) 1 = .ok (.iload_n 1, 1) := by decide +kernel
theorem u125_1 {d : Nat} {ls : Lo} {st : List Va} {σ : Sg} {Q : Rs → Sg → Prop} : Wx d 125 1 ls st σ Q ↔ Li (lget ls 1) (fun z => Wx d 125 2 ls (vi z :: st) σ Q) := u_iload_n d125_1
theorem d125_2 : decode (mB 125) 2 = .ok (.invokevirtual 175, 3) := by decide +kernel
theorem u125_2 {d : Nat} {ls : Lo} {st : List Va} {σ : Sg} {Q : Rs → Sg → Prop} {g j : Nat} {a1 : Va} : Wx (d + 1) 125 2 ls (a1 :: vr g j :: st) σ Q ↔ (isO g j 7 ∧ st.length ≤ 4 ∧ nlg [a1] = true) ∧ Wm d 91 [vr g j, a1] σ (Kc (d + 1) 125 5 ls st Q) := u_inv1 d125_2 rfl rfl rfl
theorem d125_5 : decode (mB 125) 5 = .ok (.iconst 0, 1) := by decide +kernel
theorem u125_5 {d : Nat} {ls : Lo} {st : List Va} {σ : Sg} {Q : Rs → Sg → Prop} : Wx d 125 5 ls st σ Q ↔ Wx d 125 6 ls (vi 0 :: st) σ Q := u_iconst d125_5
theorem d125_6 : decode (mB 125) 6 = .ok (.istore_n 2, 1) := by decide +kernel
theorem u125_6 {d : Nat} {ls : Lo} {st : List Va} {σ : Sg} {Q : Rs → Sg → Prop} {z : Int} : Wx d 125 6 ls (vi z :: st) σ Q ↔ Wx d 125 7 (lset ls 2 (vi z)) st σ Q := u_istore_n d125_6 (by decide)
theorem d125_7 : decode (mB 125) 7 = .ok (.iload_n 2, 1) := by decide +kernel
theorem u125_7 {d : Nat} {ls : Lo} {st : List Va} {σ : Sg} {Q : Rs → Sg → Prop} : Wx d 125 7 ls st σ Q ↔ Li (lget ls 2) (fun z => Wx d 125 8 ls (vi z :: st) σ Q) := u_iload_n d125_7
theorem d125_8 : decode (mB 125) 8 = .ok (.aload_n 0, 1) := by decide +kernel
theorem u125_8 {d : Nat} {ls : Lo} {st : List Va} {σ : Sg} {Q : Rs → Sg → Prop} : Wx d 125 8 ls st σ Q ↔ Lr (lget ls 0) (fun z => Wx d 125 9 ls (.inr (.inl z) :: st) σ Q) := u_aload_n d125_8
theorem d125_9 : decode (mB 125) 9 = .ok (.getfield 153, 3) := by decide +kernel
theorem u125_9 {d : Nat} {ls : Lo} {st : List Va} {σ : Sg} {Q : Rs → Sg → Prop} {g j : Nat} : Wx d 125 9 ls (vr g j :: st) σ Q ↔ isO g j 7 ∧ Wx d 125 12 ls (fvv σ g j 17 :: st) σ Q := u_get (w := (7, 17)) d125_9 rfl
theorem d125_12 : decode (mB 125) 12 = .ok (.if_icmp .ge 80, 3) := by decide +kernel
theorem u125_12 {d : Nat} {ls : Lo} {st : List Va} {σ : Sg} {Q : Rs → Sg → Prop} {a b : Int} (h : -2147483648 ≤ a ∧ a ≤ 2147483647) (h2 : -2147483648 ≤ b ∧ b ≤ 2147483647) : Wx d 125 12 ls (vi b :: vi a :: st) σ Q ↔ if b ≤ a then Wx d 125 92 ls st σ Q else Wx d 125 15 ls st σ Q := u_icge d125_12 (by decide) h h2
theorem d125_15 : decode (mB 125) 15 = .ok (.iconst 0, 1) := by decide +kernel
theorem u125_15 {d : Nat} {ls : Lo} {st : List Va} {σ : Sg} {Q : Rs → Sg → Prop} : Wx d 125 15 ls st σ Q ↔ Wx d 125 16 ls (vi 0 :: st) σ Q := u_iconst d125_15
theorem d125_16 : decode (mB 125) 16 = .ok (.istore_n 3, 1) := by decide +kernel
theorem u125_16 {d : Nat} {ls : Lo} {st : List Va} {σ : Sg} {Q : Rs → Sg → Prop} {z : Int} : Wx d 125 16 ls (vi z :: st) σ Q ↔ Wx d 125 17 (lset ls 3 (vi z)) st σ Q := u_istore_n d125_16 (by decide)
theorem d125_17 : decode (mB 125) 17 = .ok (.iconst 0, 1) := by decide +kernel
theorem u125_17 {d : Nat} {ls : Lo} {st : List Va} {σ : Sg} {Q : Rs → Sg → Prop} : Wx d 125 17 ls st σ Q ↔ Wx d 125 18 ls (vi 0 :: st) σ Q := u_iconst d125_17
theorem d125_18 : decode (mB 125) 18 = .ok (.istore 4, 2) := by decide +kernel
theorem u125_18 {d : Nat} {ls : Lo} {st : List Va} {σ : Sg} {Q : Rs → Sg → Prop} {z : Int} : Wx d 125 18 ls (vi z :: st) σ Q ↔ Wx d 125 20 (lset ls 4 (vi z)) st σ Q := u_istore d125_18 (by decide)
theorem d125_20 : decode (mB 125) 20 = .ok (.iload 4, 2) := by decide +kernel
theorem u125_20 {d : Nat} {ls : Lo} {st : List Va} {σ : Sg} {Q : Rs → Sg → Prop} : Wx d 125 20 ls st σ Q ↔ Li (lget ls 4) (fun z => Wx d 125 22 ls (vi z :: st) σ Q) := u_iload d125_20
theorem d125_22 : decode (mB 125) 22 = .ok (.iconst 4, 1) := by decide +kernel
theorem u125_22 {d : Nat} {ls : Lo} {st : List Va} {σ : Sg} {Q : Rs → Sg → Prop} : Wx d 125 22 ls st σ Q ↔ Wx d 125 23 ls (vi 4 :: st) σ Q := u_iconst d125_22
theorem d125_23 : decode (mB 125) 23 = .ok (.if_icmp .ge 38, 3) := by decide +kernel
theorem u125_23 {d : Nat} {ls : Lo} {st : List Va} {σ : Sg} {Q : Rs → Sg → Prop} {a b : Int} (h : -2147483648 ≤ a ∧ a ≤ 2147483647) (h2 : -2147483648 ≤ b ∧ b ≤ 2147483647) : Wx d 125 23 ls (vi b :: vi a :: st) σ Q ↔ if b ≤ a then Wx d 125 61 ls st σ Q else Wx d 125 26 ls st σ Q := u_icge d125_23 (by decide) h h2
theorem d125_26 : decode (mB 125) 26 = .ok (.iload_n 3, 1) := by decide +kernel
theorem u125_26 {d : Nat} {ls : Lo} {st : List Va} {σ : Sg} {Q : Rs → Sg → Prop} : Wx d 125 26 ls st σ Q ↔ Li (lget ls 3) (fun z => Wx d 125 27 ls (vi z :: st) σ Q) := u_iload_n d125_26
theorem d125_27 : decode (mB 125) 27 = .ok (.ifCond .ne 22, 3) := by decide +kernel
theorem u125_27 {d : Nat} {ls : Lo} {st : List Va} {σ : Sg} {Q : Rs → Sg → Prop} {a : Int} (h : -2147483648 ≤ a ∧ a ≤ 2147483647) : Wx d 125 27 ls (vi a :: st) σ Q ↔ if ¬ a = 0 then Wx d 125 49 ls st σ Q else Wx d 125 30 ls st σ Q := u_ifne d125_27 (by decide) h
theorem d125_30 : decode (mB 125) 30 = .ok (.aload_n 0, 1) := by decide +kernel
theorem u125_30 {d : Nat} {ls : Lo} {st : List Va} {σ : Sg} {Q : Rs → Sg → Prop} : Wx d 125 30 ls st σ Q ↔ Lr (lget ls 0) (fun z => Wx d 125 31 ls (.inr (.inl z) :: st) σ Q) := u_aload_n d125_30
theorem d125_31 : decode (mB 125) 31 = .ok (.getfield 102, 3) := by decide +kernel
theorem u125_31 {d : Nat} {ls : Lo} {st : List Va} {σ : Sg} {Q : Rs → Sg → Prop} {g j : Nat} : Wx d 125 31 ls (vr g j :: st) σ Q ↔ isO g j 7 ∧ Wx d 125 34 ls (fvv σ g j 40 :: st) σ Q := u_get (w := (7, 40)) d125_31 rfl
theorem d125_34 : decode (mB 125) 34 = .ok (.iload 4, 2) := by decide +kernel
theorem u125_34 {d : Nat} {ls : Lo} {st : List Va} {σ : Sg} {Q : Rs → Sg → Prop} : Wx d 125 34 ls st σ Q ↔ Li (lget ls 4) (fun z => Wx d 125 36 ls (vi z :: st) σ Q) := u_iload d125_34
theorem d125_36 : decode (mB 125) 36 = .ok (.iaload, 1) := by decide +kernel
theorem u125_36 {d : Nat} {ls : Lo} {st : List Va} {σ : Sg} {Q : Rs → Sg → Prop} {z : Int} {g j : Nat} : Wx d 125 36 ls (vi z :: vr g j :: st) σ Q ↔ On (ial σ g j z) (fun x => Wx d 125 37 ls (vi x :: st) σ Q) := u_iald d125_36
theorem d125_37 : decode (mB 125) 37 = .ok (.bipush 12, 2) := by decide +kernel
theorem u125_37 {d : Nat} {ls : Lo} {st : List Va} {σ : Sg} {Q : Rs → Sg → Prop} : Wx d 125 37 ls st σ Q ↔ Wx d 125 39 ls (vi 12 :: st) σ Q := u_bipush d125_37 (by decide)
theorem d125_39 : decode (mB 125) 39 = .ok (.irem, 1) := by decide +kernel
theorem u125_39 {d : Nat} {ls : Lo} {st : List Va} {σ : Sg} {Q : Rs → Sg → Prop} {a b : Int} (h : (-2147483648 ≤ a ∧ a ≤ 2147483647) ∧ 0 < b ∧ b ≤ 2147483647) : Wx d 125 39 ls (vi b :: vi a :: st) σ Q ↔ Wx d 125 40 ls (vi (Int.tmod a b) :: st) σ Q := u_irem d125_39 h
theorem d125_40 : decode (mB 125) 40 = .ok (.aload_n 0, 1) := by decide +kernel
theorem u125_40 {d : Nat} {ls : Lo} {st : List Va} {σ : Sg} {Q : Rs → Sg → Prop} : Wx d 125 40 ls st σ Q ↔ Lr (lget ls 0) (fun z => Wx d 125 41 ls (.inr (.inl z) :: st) σ Q) := u_aload_n d125_40
theorem d125_41 : decode (mB 125) 41 = .ok (.getfield 53, 3) := by decide +kernel
theorem u125_41 {d : Nat} {ls : Lo} {st : List Va} {σ : Sg} {Q : Rs → Sg → Prop} {g j : Nat} : Wx d 125 41 ls (vr g j :: st) σ Q ↔ isO g j 7 ∧ Wx d 125 44 ls (fvv σ g j 19 :: st) σ Q := u_get (w := (7, 19)) d125_41 rfl
theorem d125_44 : decode (mB 125) 44 = .ok (.iload_n 2, 1) := by decide +kernel
theorem u125_44 {d : Nat} {ls : Lo} {st : List Va} {σ : Sg} {Q : Rs → Sg → Prop} : Wx d 125 44 ls st σ Q ↔ Li (lget ls 2) (fun z => Wx d 125 45 ls (vi z :: st) σ Q) := u_iload_n d125_44
theorem d125_45 : decode (mB 125) 45 = .ok (.iaload, 1) := by decide +kernel
theorem u125_45 {d : Nat} {ls : Lo} {st : List Va} {σ : Sg} {Q : Rs → Sg → Prop} {z : Int} {g j : Nat} : Wx d 125 45 ls (vi z :: vr g j :: st) σ Q ↔ On (ial σ g j z) (fun x => Wx d 125 46 ls (vi x :: st) σ Q) := u_iald d125_45
theorem d125_46 : decode (mB 125) 46 = .ok (.if_icmp .ne 7, 3) := by decide +kernel
theorem u125_46 {d : Nat} {ls : Lo} {st : List Va} {σ : Sg} {Q : Rs → Sg → Prop} {a b : Int} (h : -2147483648 ≤ a ∧ a ≤ 2147483647) (h2 : -2147483648 ≤ b ∧ b ≤ 2147483647) : Wx d 125 46 ls (vi b :: vi a :: st) σ Q ↔ if ¬ a = b then Wx d 125 53 ls st σ Q else Wx d 125 49 ls st σ Q := u_icne d125_46 (by decide) h h2
theorem d125_49 : decode (mB 125) 49 = .ok (.iconst 1, 1) := by decide +kernel
theorem u125_49 {d : Nat} {ls : Lo} {st : List Va} {σ : Sg} {Q : Rs → Sg → Prop} : Wx d 125 49 ls st σ Q ↔ Wx d 125 50 ls (vi 1 :: st) σ Q := u_iconst d125_49
theorem d125_50 : decode (mB 125) 50 = .ok (.goto 4, 3) := by decide +kernel
theorem u125_50 {d : Nat} {ls : Lo} {st : List Va} {σ : Sg} {Q : Rs → Sg → Prop} : Wx d 125 50 ls st σ Q ↔ Wx d 125 54 ls st σ Q := u_goto d125_50 (by decide)
theorem d125_53 : decode (mB 125) 53 = .ok (.iconst 0, 1) := by decide +kernel
theorem u125_53 {d : Nat} {ls : Lo} {st : List Va} {σ : Sg} {Q : Rs → Sg → Prop} : Wx d 125 53 ls st σ Q ↔ Wx d 125 54 ls (vi 0 :: st) σ Q := u_iconst d125_53
theorem d125_54 : decode (mB 125) 54 = .ok (.istore_n 3, 1) := by decide +kernel
theorem u125_54 {d : Nat} {ls : Lo} {st : List Va} {σ : Sg} {Q : Rs → Sg → Prop} {z : Int} : Wx d 125 54 ls (vi z :: st) σ Q ↔ Wx d 125 55 (lset ls 3 (vi z)) st σ Q := u_istore_n d125_54 (by decide)
theorem d125_55 : decode (mB 125) 55 = .ok (.iinc 4 1, 3) := by decide +kernel
theorem u125_55 {d : Nat} {ls : Lo} {st : List Va} {σ : Sg} {Q : Rs → Sg → Prop} : Wx d 125 55 ls st σ Q ↔ Li (lget ls 4) (fun z => Wx d 125 58 (lset ls 4 (vi (z + 1))) st σ Q) := u_iinc d125_55 (by decide)
theorem d125_58 : decode (mB 125) 58 = .ok (.goto (-38), 3) := by decide +kernel
theorem u125_58 {d : Nat} {ls : Lo} {st : List Va} {σ : Sg} {Q : Rs → Sg → Prop} : Wx d 125 58 ls st σ Q ↔ Wx d 125 20 ls st σ Q := u_goto d125_58 (by decide)
theorem d125_61 : decode (mB 125) 61 = .ok (.aload_n 0, 1) := by decide +kernel
theorem u125_61 {d : Nat} {ls : Lo} {st : List Va} {σ : Sg} {Q : Rs → Sg → Prop} : Wx d 125 61 ls st σ Q ↔ Lr (lget ls 0) (fun z => Wx d 125 62 ls (.inr (.inl z) :: st) σ Q) := u_aload_n d125_61
theorem d125_62 : decode (mB 125) 62 = .ok (.iload_n 1, 1) := by decide +kernel
theorem u125_62 {d : Nat} {ls : Lo} {st : List Va} {σ : Sg} {Q : Rs → Sg → Prop} : Wx d 125 62 ls st σ Q ↔ Li (lget ls 1) (fun z => Wx d 125 63 ls (vi z :: st) σ Q) := u_iload_n d125_62
theorem d125_63 : decode (mB 125) 63 = .ok (.bipush 8, 2) := by decide +kernel
theorem u125_63 {d : Nat} {ls : Lo} {st : List Va} {σ : Sg} {Q : Rs → Sg → Prop} : Wx d 125 63 ls st σ Q ↔ Wx d 125 65 ls (vi 8 :: st) σ Q := u_bipush d125_63 (by decide)
theorem d125_65 : decode (mB 125) 65 = .ok (.iload_n 2, 1) := by decide +kernel
theorem u125_65 {d : Nat} {ls : Lo} {st : List Va} {σ : Sg} {Q : Rs → Sg → Prop} : Wx d 125 65 ls st σ Q ↔ Li (lget ls 2) (fun z => Wx d 125 66 ls (vi z :: st) σ Q) := u_iload_n d125_65
theorem d125_66 : decode (mB 125) 66 = .ok (.iload_n 3, 1) := by decide +kernel
theorem u125_66 {d : Nat} {ls : Lo} {st : List Va} {σ : Sg} {Q : Rs → Sg → Prop} : Wx d 125 66 ls st σ Q ↔ Li (lget ls 3) (fun z => Wx d 125 67 ls (vi z :: st) σ Q) := u_iload_n d125_66
theorem d125_67 : decode (mB 125) 67 = .ok (.ifCond .ne 15, 3) := by decide +kernel
theorem u125_67 {d : Nat} {ls : Lo} {st : List Va} {σ : Sg} {Q : Rs → Sg → Prop} {a : Int} (h : -2147483648 ≤ a ∧ a ≤ 2147483647) : Wx d 125 67 ls (vi a :: st) σ Q ↔ if ¬ a = 0 then Wx d 125 82 ls st σ Q else Wx d 125 70 ls st σ Q := u_ifne d125_67 (by decide) h
theorem d125_70 : decode (mB 125) 70 = .ok (.iload_n 2, 1) := by decide +kernel
theorem u125_70 {d : Nat} {ls : Lo} {st : List Va} {σ : Sg} {Q : Rs → Sg → Prop} : Wx d 125 70 ls st σ Q ↔ Li (lget ls 2) (fun z => Wx d 125 71 ls (vi z :: st) σ Q) := u_iload_n d125_70
theorem d125_71 : decode (mB 125) 71 = .ok (.aload_n 0, 1) := by decide +kernel
theorem u125_71 {d : Nat} {ls : Lo} {st : List Va} {σ : Sg} {Q : Rs → Sg → Prop} : Wx d 125 71 ls st σ Q ↔ Lr (lget ls 0) (fun z => Wx d 125 72 ls (.inr (.inl z) :: st) σ Q) := u_aload_n d125_71
theorem d125_72 : decode (mB 125) 72 = .ok (.getfield 163, 3) := by decide +kernel
theorem u125_72 {d : Nat} {ls : Lo} {st : List Va} {σ : Sg} {Q : Rs → Sg → Prop} {g j : Nat} : Wx d 125 72 ls (vr g j :: st) σ Q ↔ isO g j 7 ∧ Wx d 125 75 ls (fvv σ g j 20 :: st) σ Q := u_get (w := (7, 20)) d125_72 rfl
theorem d125_75 : decode (mB 125) 75 = .ok (.if_icmp .eq 7, 3) := by decide +kernel
theorem u125_75 {d : Nat} {ls : Lo} {st : List Va} {σ : Sg} {Q : Rs → Sg → Prop} {a b : Int} (h : -2147483648 ≤ a ∧ a ≤ 2147483647) (h2 : -2147483648 ≤ b ∧ b ≤ 2147483647) : Wx d 125 75 ls (vi b :: vi a :: st) σ Q ↔ if a = b then Wx d 125 82 ls st σ Q else Wx d 125 78 ls st σ Q := u_iceq d125_75 (by decide) h h2
theorem d125_78 : decode (mB 125) 78 = .ok (.iconst 1, 1) := by decide +kernel
theorem u125_78 {d : Nat} {ls : Lo} {st : List Va} {σ : Sg} {Q : Rs → Sg → Prop} : Wx d 125 78 ls st σ Q ↔ Wx d 125 79 ls (vi 1 :: st) σ Q := u_iconst d125_78
theorem d125_79 : decode (mB 125) 79 = .ok (.goto 4, 3) := by decide +kernel
theorem u125_79 {d : Nat} {ls : Lo} {st : List Va} {σ : Sg} {Q : Rs → Sg → Prop} : Wx d 125 79 ls st σ Q ↔ Wx d 125 83 ls st σ Q := u_goto d125_79 (by decide)
theorem d125_82 : decode (mB 125) 82 = .ok (.iconst 0, 1) := by decide +kernel
theorem u125_82 {d : Nat} {ls : Lo} {st : List Va} {σ : Sg} {Q : Rs → Sg → Prop} : Wx d 125 82 ls st σ Q ↔ Wx d 125 83 ls (vi 0 :: st) σ Q := u_iconst d125_82
theorem d125_83 : decode (mB 125) 83 = .ok (.invokevirtual 256, 3) := by decide +kernel
theorem u125_83 {d : Nat} {ls : Lo} {st : List Va} {σ : Sg} {Q : Rs → Sg → Prop} {g j : Nat} {a1 a2 a3 a4 : Va} : Wx (d + 1) 125 83 ls (a4 :: a3 :: a2 :: a1 :: vr g j :: st) σ Q ↔ (isO g j 7 ∧ st.length ≤ 4 ∧ nlg [a4, a3, a2, a1] = true) ∧ Wm d 121 [vr g j, a1, a2, a3, a4] σ (Kc (d + 1) 125 86 ls st Q) := u_inv4 d125_83 rfl rfl rfl
theorem d125_86 : decode (mB 125) 86 = .ok (.iinc 2 1, 3) := by decide +kernel
theorem u125_86 {d : Nat} {ls : Lo} {st : List Va} {σ : Sg} {Q : Rs → Sg → Prop} : Wx d 125 86 ls st σ Q ↔ Li (lget ls 2) (fun z => Wx d 125 89 (lset ls 2 (vi (z + 1))) st σ Q) := u_iinc d125_86 (by decide)
theorem d125_89 : decode (mB 125) 89 = .ok (.goto (-82), 3) := by decide +kernel
theorem u125_89 {d : Nat} {ls : Lo} {st : List Va} {σ : Sg} {Q : Rs → Sg → Prop} : Wx d 125 89 ls st σ Q ↔ Wx d 125 7 ls st σ Q := u_goto d125_89 (by decide)
theorem d125_92 : decode (mB 125) 92 = .ok (.return_, 1) := by decide +kernel
theorem u125_92 {d : Nat} {ls : Lo} {σ : Sg} {Q : Rs → Sg → Prop} : Wx d 125 92 ls [] σ Q ↔ Q (.inl none) σ := u_vret d125_92 rfl
/-! 126: FiguredBassModel.faults()I -/
theorem d126_0 : decode (mB 126) 0 = .ok (.aload_n 0, 1) := by decide +kernel
theorem u126_0 {d : Nat} {ls : Lo} {st : List Va} {σ : Sg} {Q : Rs → Sg → Prop} : Wx d 126 0 ls st σ Q ↔ Lr (lget ls 0) (fun z => Wx d 126 1 ls (.inr (.inl z) :: st) σ Q) := u_aload_n d126_0
theorem d126_1 : decode (mB 126) 1 = .ok (.aload_n 0, 1) := by decide +kernel
theorem u126_1 {d : Nat} {ls : Lo} {st : List Va} {σ : Sg} {Q : Rs → Sg → Prop} : Wx d 126 1 ls st σ Q ↔ Lr (lget ls 0) (fun z => Wx d 126 2 ls (.inr (.inl z) :: st) σ Q) := u_aload_n d126_1
theorem d126_2 : decode (mB 126) 2 = .ok (.iconst 0, 1) := by decide +kernel
theorem u126_2 {d : Nat} {ls : Lo} {st : List Va} {σ : Sg} {Q : Rs → Sg → Prop} : Wx d 126 2 ls st σ Q ↔ Wx d 126 3 ls (vi 0 :: st) σ Q := u_iconst d126_2
theorem d126_3 : decode (mB 126) 3 = .ok (.invokevirtual 233, 3) := by decide +kernel
theorem u126_3 {d : Nat} {ls : Lo} {st : List Va} {σ : Sg} {Q : Rs → Sg → Prop} {g j : Nat} {a1 : Va} : Wx (d + 1) 126 3 ls (a1 :: vr g j :: st) σ Q ↔ (isO g j 7 ∧ st.length ≤ 4 ∧ nlg [a1] = true) ∧ Wm d 99 [vr g j, a1] σ (Kc (d + 1) 126 6 ls st Q) := u_inv1 d126_3 rfl rfl rfl
theorem d126_6 : decode (mB 126) 6 = .ok (.ifCond .eq 7, 3) := by decide +kernel
theorem u126_6 {d : Nat} {ls : Lo} {st : List Va} {σ : Sg} {Q : Rs → Sg → Prop} {a : Int} (h : -2147483648 ≤ a ∧ a ≤ 2147483647) : Wx d 126 6 ls (vi a :: st) σ Q ↔ if a = 0 then Wx d 126 13 ls st σ Q else Wx d 126 9 ls st σ Q := u_ifeq d126_6 (by decide) h
theorem d126_9 : decode (mB 126) 9 = .ok (.iconst 0, 1) := by decide +kernel
theorem u126_9 {d : Nat} {ls : Lo} {st : List Va} {σ : Sg} {Q : Rs → Sg → Prop} : Wx d 126 9 ls st σ Q ↔ Wx d 126 10 ls (vi 0 :: st) σ Q := u_iconst d126_9
theorem d126_10 : decode (mB 126) 10 = .ok (.goto 4, 3) := by decide +kernel
theorem u126_10 {d : Nat} {ls : Lo} {st : List Va} {σ : Sg} {Q : Rs → Sg → Prop} : Wx d 126 10 ls st σ Q ↔ Wx d 126 14 ls st σ Q := u_goto d126_10 (by decide)
theorem d126_13 : decode (mB 126) 13 = .ok (.iconst 1, 1) := by decide +kernel
theorem u126_13 {d : Nat} {ls : Lo} {st : List Va} {σ : Sg} {Q : Rs → Sg → Prop} : Wx d 126 13 ls st σ Q ↔ Wx d 126 14 ls (vi 1 :: st) σ Q := u_iconst d126_13
theorem d126_14 : decode (mB 126) 14 = .ok (.putfield 108, 3) := by decide +kernel
theorem u126_14 {d : Nat} {ls : Lo} {st : List Va} {σ : Sg} {Q : Rs → Sg → Prop} {z : Int} {g j : Nat} : Wx d 126 14 ls (vi z :: vr g j :: st) σ Q ↔ (isO g j 7 ∧ rf g j 0 = none) ∧ Wx d 126 17 ls st (up σ g j 0 z) Q := u_put (w := (7, 0)) d126_14 rfl rfl rfl
theorem d126_17 : decode (mB 126) 17 = .ok (.aload_n 0, 1) := by decide +kernel
theorem u126_17 {d : Nat} {ls : Lo} {st : List Va} {σ : Sg} {Q : Rs → Sg → Prop} : Wx d 126 17 ls st σ Q ↔ Lr (lget ls 0) (fun z => Wx d 126 18 ls (.inr (.inl z) :: st) σ Q) := u_aload_n d126_17
theorem d126_18 : decode (mB 126) 18 = .ok (.getfield 108, 3) := by decide +kernel
theorem u126_18 {d : Nat} {ls : Lo} {st : List Va} {σ : Sg} {Q : Rs → Sg → Prop} {g j : Nat} : Wx d 126 18 ls (vr g j :: st) σ Q ↔ isO g j 7 ∧ Wx d 126 21 ls (fvv σ g j 0 :: st) σ Q := u_get (w := (7, 0)) d126_18 rfl
theorem d126_21 : decode (mB 126) 21 = .ok (.ifCond .eq 5, 3) := by decide +kernel
theorem u126_21 {d : Nat} {ls : Lo} {st : List Va} {σ : Sg} {Q : Rs → Sg → Prop} {a : Int} (h : -2147483648 ≤ a ∧ a ≤ 2147483647) : Wx d 126 21 ls (vi a :: st) σ Q ↔ if a = 0 then Wx d 126 26 ls st σ Q else Wx d 126 24 ls st σ Q := u_ifeq d126_21 (by decide) h
theorem d126_24 : decode (mB 126) 24 = .ok (.iconst 0, 1) := by decide +kernel
theorem u126_24 {d : Nat} {ls : Lo} {st : List Va} {σ : Sg} {Q : Rs → Sg → Prop} : Wx d 126 24 ls st σ Q ↔ Wx d 126 25 ls (vi 0 :: st) σ Q := u_iconst d126_24
theorem d126_25 : decode (mB 126) 25 = .ok (.ireturn, 1) := by decide +kernel
theorem u126_25 {d : Nat} {ls : Lo} {σ : Sg} {Q : Rs → Sg → Prop} {z : Int} : Wx d 126 25 ls [vi z] σ Q ↔ Q (.inl (some (vi z))) σ := u_iret d126_25 rfl
theorem d126_26 : decode (mB 126) 26 = .ok (.aload_n 0, 1) := by decide +kernel
theorem u126_26 {d : Nat} {ls : Lo} {st : List Va} {σ : Sg} {Q : Rs → Sg → Prop} : Wx d 126 26 ls st σ Q ↔ Lr (lget ls 0) (fun z => Wx d 126 27 ls (.inr (.inl z) :: st) σ Q) := u_aload_n d126_26
theorem d126_27 : decode (mB 126) 27 = .ok (.iconst 0, 1) := by decide +kernel
theorem u126_27 {d : Nat} {ls : Lo} {st : List Va} {σ : Sg} {Q : Rs → Sg → Prop} : Wx d 126 27 ls st σ Q ↔ Wx d 126 28 ls (vi 0 :: st) σ Q := u_iconst d126_27
theorem d126_28 : decode (mB 126) 28 = .ok (.putfield 253, 3) := by decide +kernel
theorem u126_28 {d : Nat} {ls : Lo} {st : List Va} {σ : Sg} {Q : Rs → Sg → Prop} {z : Int} {g j : Nat} : Wx d 126 28 ls (vi z :: vr g j :: st) σ Q ↔ (isO g j 7 ∧ rf g j 36 = none) ∧ Wx d 126 31 ls st (up σ g j 36 z) Q := u_put (w := (7, 36)) d126_28 rfl rfl rfl
theorem d126_31 : decode (mB 126) 31 = .ok (.iconst 0, 1) := by decide +kernel
theorem u126_31 {d : Nat} {ls : Lo} {st : List Va} {σ : Sg} {Q : Rs → Sg → Prop} : Wx d 126 31 ls st σ Q ↔ Wx d 126 32 ls (vi 0 :: st) σ Q := u_iconst d126_31
theorem d126_32 : decode (mB 126) 32 = .ok (.istore_n 1, 1) := by decide +kernel
theorem u126_32 {d : Nat} {ls : Lo} {st : List Va} {σ : Sg} {Q : Rs → Sg → Prop} {z : Int} : Wx d 126 32 ls (vi z :: st) σ Q ↔ Wx d 126 33 (lset ls 1 (vi z)) st σ Q := u_istore_n d126_32 (by decide)
theorem d126_33 : decode (mB 126) 33 = .ok (.iload_n 1, 1) := by decide +kernel
theorem u126_33 {d : Nat} {ls : Lo} {st : List Va} {σ : Sg} {Q : Rs → Sg → Prop} : Wx d 126 33 ls st σ Q ↔ Li (lget ls 1) (fun z => Wx d 126 34 ls (vi z :: st) σ Q) := u_iload_n d126_33
theorem d126_34 : decode (mB 126) 34 = .ok (.aload_n 0, 1) := by decide +kernel
theorem u126_34 {d : Nat} {ls : Lo} {st : List Va} {σ : Sg} {Q : Rs → Sg → Prop} : Wx d 126 34 ls st σ Q ↔ Lr (lget ls 0) (fun z => Wx d 126 35 ls (.inr (.inl z) :: st) σ Q) := u_aload_n d126_34
theorem d126_35 : decode (mB 126) 35 = .ok (.getfield 22, 3) := by decide +kernel
theorem u126_35 {d : Nat} {ls : Lo} {st : List Va} {σ : Sg} {Q : Rs → Sg → Prop} {g j : Nat} : Wx d 126 35 ls (vr g j :: st) σ Q ↔ isO g j 7 ∧ Wx d 126 38 ls (fvv σ g j 7 :: st) σ Q := u_get (w := (7, 7)) d126_35 rfl
theorem d126_38 : decode (mB 126) 38 = .ok (.if_icmp .ge 39, 3) := by decide +kernel
theorem u126_38 {d : Nat} {ls : Lo} {st : List Va} {σ : Sg} {Q : Rs → Sg → Prop} {a b : Int} (h : -2147483648 ≤ a ∧ a ≤ 2147483647) (h2 : -2147483648 ≤ b ∧ b ≤ 2147483647) : Wx d 126 38 ls (vi b :: vi a :: st) σ Q ↔ if b ≤ a then Wx d 126 77 ls st σ Q else Wx d 126 41 ls st σ Q := u_icge d126_38 (by decide) h h2
theorem d126_41 : decode (mB 126) 41 = .ok (.aload_n 0, 1) := by decide +kernel
theorem u126_41 {d : Nat} {ls : Lo} {st : List Va} {σ : Sg} {Q : Rs → Sg → Prop} : Wx d 126 41 ls st σ Q ↔ Lr (lget ls 0) (fun z => Wx d 126 42 ls (.inr (.inl z) :: st) σ Q) := u_aload_n d126_41
theorem d126_42 : decode (mB 126) 42 = .ok (.iload_n 1, 1) := by decide +kernel
theorem u126_42 {d : Nat} {ls : Lo} {st : List Va} {σ : Sg} {Q : Rs → Sg → Prop} : Wx d 126 42 ls st σ Q ↔ Li (lget ls 1) (fun z => Wx d 126 43 ls (vi z :: st) σ Q) := u_iload_n d126_42
theorem d126_43 : decode (mB 126) 43 = .ok (.invokevirtual 260, 3) := by decide +kernel
theorem u126_43 {d : Nat} {ls : Lo} {st : List Va} {σ : Sg} {Q : Rs → Sg → Prop} {g j : Nat} {a1 : Va} : Wx (d + 1) 126 43 ls (a1 :: vr g j :: st) σ Q ↔ (isO g j 7 ∧ st.length ≤ 4 ∧ nlg [a1] = true) ∧ Wm d 122 [vr g j, a1] σ (Kc (d + 1) 126 46 ls st Q) := u_inv1 d126_43 rfl rfl rfl
theorem d126_46 : decode (mB 126) 46 = .ok (.aload_n 0, 1) := by decide +kernel
theorem u126_46 {d : Nat} {ls : Lo} {st : List Va} {σ : Sg} {Q : Rs → Sg → Prop} : Wx d 126 46 ls st σ Q ↔ Lr (lget ls 0) (fun z => Wx d 126 47 ls (.inr (.inl z) :: st) σ Q) := u_aload_n d126_46
theorem d126_47 : decode (mB 126) 47 = .ok (.iload_n 1, 1) := by decide +kernel
theorem u126_47 {d : Nat} {ls : Lo} {st : List Va} {σ : Sg} {Q : Rs → Sg → Prop} : Wx d 126 47 ls st σ Q ↔ Li (lget ls 1) (fun z => Wx d 126 48 ls (vi z :: st) σ Q) := u_iload_n d126_47
theorem d126_48 : decode (mB 126) 48 = .ok (.invokevirtual 263, 3) := by decide +kernel
theorem u126_48 {d : Nat} {ls : Lo} {st : List Va} {σ : Sg} {Q : Rs → Sg → Prop} {g j : Nat} {a1 : Va} : Wx (d + 1) 126 48 ls (a1 :: vr g j :: st) σ Q ↔ (isO g j 7 ∧ st.length ≤ 4 ∧ nlg [a1] = true) ∧ Wm d 123 [vr g j, a1] σ (Kc (d + 1) 126 51 ls st Q) := u_inv1 d126_48 rfl rfl rfl
theorem d126_51 : decode (mB 126) 51 = .ok (.iload_n 1, 1) := by decide +kernel
theorem u126_51 {d : Nat} {ls : Lo} {st : List Va} {σ : Sg} {Q : Rs → Sg → Prop} : Wx d 126 51 ls st σ Q ↔ Li (lget ls 1) (fun z => Wx d 126 52 ls (vi z :: st) σ Q) := u_iload_n d126_51
theorem d126_52 : decode (mB 126) 52 = .ok (.aload_n 0, 1) := by decide +kernel
theorem u126_52 {d : Nat} {ls : Lo} {st : List Va} {σ : Sg} {Q : Rs → Sg → Prop} : Wx d 126 52 ls st σ Q ↔ Lr (lget ls 0) (fun z => Wx d 126 53 ls (.inr (.inl z) :: st) σ Q) := u_aload_n d126_52
theorem d126_53 : decode (mB 126) 53 = .ok (.getfield 22, 3) := by decide +kernel
theorem u126_53 {d : Nat} {ls : Lo} {st : List Va} {σ : Sg} {Q : Rs → Sg → Prop} {g j : Nat} : Wx d 126 53 ls (vr g j :: st) σ Q ↔ isO g j 7 ∧ Wx d 126 56 ls (fvv σ g j 7 :: st) σ Q := u_get (w := (7, 7)) d126_53 rfl
theorem d126_56 : decode (mB 126) 56 = .ok (.iconst 1, 1) := by decide +kernel
theorem u126_56 {d : Nat} {ls : Lo} {st : List Va} {σ : Sg} {Q : Rs → Sg → Prop} : Wx d 126 56 ls st σ Q ↔ Wx d 126 57 ls (vi 1 :: st) σ Q := u_iconst d126_56
theorem d126_57 : decode (mB 126) 57 = .ok (.isub, 1) := by decide +kernel
theorem u126_57 {d : Nat} {ls : Lo} {st : List Va} {σ : Sg} {Q : Rs → Sg → Prop} {a b : Int} : Wx d 126 57 ls (vi b :: vi a :: st) σ Q ↔ Wx d 126 58 ls (vi (a - b) :: st) σ Q := u_isub d126_57
theorem d126_58 : decode (mB 126) 58 = .ok (.if_icmp .ge 8, 3) := by decide +kernel
theorem u126_58 {d : Nat} {ls : Lo} {st : List Va} {σ : Sg} {Q : Rs → Sg → Prop} {a b : Int} (h : -2147483648 ≤ a ∧ a ≤ 2147483647) (h2 : -2147483648 ≤ b ∧ b ≤ 2147483647) : Wx d 126 58 ls (vi b :: vi a :: st) σ Q ↔ if b ≤ a then Wx d 126 66 ls st σ Q else Wx d 126 61 ls st σ Q := u_icge d126_58 (by decide) h h2
theorem d126_61 : decode (mB 126) 61 = .ok (.aload_n 0, 1) := by decide +kernel
theorem u126_61 {d : Nat} {ls : Lo} {st : List Va} {σ : Sg} {Q : Rs → Sg → Prop} : Wx d 126 61 ls st σ Q ↔ Lr (lget ls 0) (fun z => Wx d 126 62 ls (.inr (.inl z) :: st) σ Q) := u_aload_n d126_61
theorem d126_62 : decode (mB 126) 62 = .ok (.iload_n 1, 1) := by decide +kernel
theorem u126_62 {d : Nat} {ls : Lo} {st : List Va} {σ : Sg} {Q : Rs → Sg → Prop} : Wx d 126 62 ls st σ Q ↔ Li (lget ls 1) (fun z => Wx d 126 63 ls (vi z :: st) σ Q) := u_iload_n d126_62
theorem d126_63 : decode (mB 126) 63 = .ok (.invokevirtual 266, 3) := by decide +kernel
theorem u126_63 {d : Nat} {ls : Lo} {st : List Va} {σ : Sg} {Q : Rs → Sg → Prop} {g j : Nat} {a1 : Va} : Wx (d + 1) 126 63 ls (a1 :: vr g j :: st) σ Q ↔ (isO g j 7 ∧ st.length ≤ 4 ∧ nlg [a1] = true) ∧ Wm d 124 [vr g j, a1] σ (Kc (d + 1) 126 66 ls st Q) := u_inv1 d126_63 rfl rfl rfl
theorem d126_66 : decode (mB 126) 66 = .ok (.aload_n 0, 1) := by decide +kernel
theorem u126_66 {d : Nat} {ls : Lo} {st : List Va} {σ : Sg} {Q : Rs → Sg → Prop} : Wx d 126 66 ls st σ Q ↔ Lr (lget ls 0) (fun z => Wx d 126 67 ls (.inr (.inl z) :: st) σ Q) := u_aload_n d126_66
theorem d126_67 : decode (mB 126) 67 = .ok (.iload_n 1, 1) := by decide +kernel
theorem u126_67 {d : Nat} {ls : Lo} {st : List Va} {σ : Sg} {Q : Rs → Sg → Prop} : Wx d 126 67 ls st σ Q ↔ Li (lget ls 1) (fun z => Wx d 126 68 ls (vi z :: st) σ Q) := u_iload_n d126_67
theorem d126_68 : decode (mB 126) 68 = .ok (.invokevirtual 269, 3) := by decide +kernel
theorem u126_68 {d : Nat} {ls : Lo} {st : List Va} {σ : Sg} {Q : Rs → Sg → Prop} {g j : Nat} {a1 : Va} : Wx (d + 1) 126 68 ls (a1 :: vr g j :: st) σ Q ↔ (isO g j 7 ∧ st.length ≤ 4 ∧ nlg [a1] = true) ∧ Wm d 125 [vr g j, a1] σ (Kc (d + 1) 126 71 ls st Q) := u_inv1 d126_68 rfl rfl rfl
theorem d126_71 : decode (mB 126) 71 = .ok (.iinc 1 1, 3) := by decide +kernel
theorem u126_71 {d : Nat} {ls : Lo} {st : List Va} {σ : Sg} {Q : Rs → Sg → Prop} : Wx d 126 71 ls st σ Q ↔ Li (lget ls 1) (fun z => Wx d 126 74 (lset ls 1 (vi (z + 1))) st σ Q) := u_iinc d126_71 (by decide)
theorem d126_74 : decode (mB 126) 74 = .ok (.goto (-41), 3) := by decide +kernel
theorem u126_74 {d : Nat} {ls : Lo} {st : List Va} {σ : Sg} {Q : Rs → Sg → Prop} : Wx d 126 74 ls st σ Q ↔ Wx d 126 33 ls st σ Q := u_goto d126_74 (by decide)
theorem d126_77 : decode (mB 126) 77 = .ok (.aload_n 0, 1) := by decide +kernel
theorem u126_77 {d : Nat} {ls : Lo} {st : List Va} {σ : Sg} {Q : Rs → Sg → Prop} : Wx d 126 77 ls st σ Q ↔ Lr (lget ls 0) (fun z => Wx d 126 78 ls (.inr (.inl z) :: st) σ Q) := u_aload_n d126_77
theorem d126_78 : decode (mB 126) 78 = .ok (.getfield 253, 3) := by decide +kernel
theorem u126_78 {d : Nat} {ls : Lo} {st : List Va} {σ : Sg} {Q : Rs → Sg → Prop} {g j : Nat} : Wx d 126 78 ls (vr g j :: st) σ Q ↔ isO g j 7 ∧ Wx d 126 81 ls (fvv σ g j 36 :: st) σ Q := u_get (w := (7, 36)) d126_78 rfl
theorem d126_81 : decode (mB 126) 81 = .ok (.ireturn, 1) := by decide +kernel
theorem u126_81 {d : Nat} {ls : Lo} {σ : Sg} {Q : Rs → Sg → Prop} {z : Int} : Wx d 126 81 ls [vi z] σ Q ↔ Q (.inl (some (vi z))) σ := u_iret d126_81 rfl
/-! 127: FiguredBassModel.fault(II)I -/
theorem d127_0 : decode (mB 127) 0 = .ok (.aload_n 0, 1) := by decide +kernel
theorem u127_0 {d : Nat} {ls : Lo} {st : List Va} {σ : Sg} {Q : Rs → Sg → Prop} : Wx d 127 0 ls st σ Q ↔ Lr (lget ls 0) (fun z => Wx d 127 1 ls (.inr (.inl z) :: st) σ Q) := u_aload_n d127_0
theorem d127_1 : decode (mB 127) 1 = .ok (.iload_n 1, 1) := by decide +kernel
theorem u127_1 {d : Nat} {ls : Lo} {st : List Va} {σ : Sg} {Q : Rs → Sg → Prop} : Wx d 127 1 ls st σ Q ↔ Li (lget ls 1) (fun z => Wx d 127 2 ls (vi z :: st) σ Q) := u_iload_n d127_1
theorem d127_2 : decode (mB 127) 2 = .ok (.ifCond .lt 11, 3) := by decide +kernel
theorem u127_2 {d : Nat} {ls : Lo} {st : List Va} {σ : Sg} {Q : Rs → Sg → Prop} {a : Int} (h : -2147483648 ≤ a ∧ a ≤ 2147483647) : Wx d 127 2 ls (vi a :: st) σ Q ↔ if a < 0 then Wx d 127 13 ls st σ Q else Wx d 127 5 ls st σ Q := u_iflt d127_2 (by decide) h
theorem d127_5 : decode (mB 127) 5 = .ok (.iload_n 1, 1) := by decide +kernel
theorem u127_5 {d : Nat} {ls : Lo} {st : List Va} {σ : Sg} {Q : Rs → Sg → Prop} : Wx d 127 5 ls st σ Q ↔ Li (lget ls 1) (fun z => Wx d 127 6 ls (vi z :: st) σ Q) := u_iload_n d127_5
theorem d127_6 : decode (mB 127) 6 = .ok (.aload_n 0, 1) := by decide +kernel
theorem u127_6 {d : Nat} {ls : Lo} {st : List Va} {σ : Sg} {Q : Rs → Sg → Prop} : Wx d 127 6 ls st σ Q ↔ Lr (lget ls 0) (fun z => Wx d 127 7 ls (.inr (.inl z) :: st) σ Q) := u_aload_n d127_6
theorem d127_7 : decode (mB 127) 7 = .ok (.getfield 253, 3) := by decide +kernel
theorem u127_7 {d : Nat} {ls : Lo} {st : List Va} {σ : Sg} {Q : Rs → Sg → Prop} {g j : Nat} : Wx d 127 7 ls (vr g j :: st) σ Q ↔ isO g j 7 ∧ Wx d 127 10 ls (fvv σ g j 36 :: st) σ Q := u_get (w := (7, 36)) d127_7 rfl
theorem d127_10 : decode (mB 127) 10 = .ok (.if_icmp .lt 7, 3) := by decide +kernel
theorem u127_10 {d : Nat} {ls : Lo} {st : List Va} {σ : Sg} {Q : Rs → Sg → Prop} {a b : Int} (h : -2147483648 ≤ a ∧ a ≤ 2147483647) (h2 : -2147483648 ≤ b ∧ b ≤ 2147483647) : Wx d 127 10 ls (vi b :: vi a :: st) σ Q ↔ if a < b then Wx d 127 17 ls st σ Q else Wx d 127 13 ls st σ Q := u_iclt d127_10 (by decide) h h2
theorem d127_13 : decode (mB 127) 13 = .ok (.iconst 1, 1) := by decide +kernel
theorem u127_13 {d : Nat} {ls : Lo} {st : List Va} {σ : Sg} {Q : Rs → Sg → Prop} : Wx d 127 13 ls st σ Q ↔ Wx d 127 14 ls (vi 1 :: st) σ Q := u_iconst d127_13
theorem d127_14 : decode (mB 127) 14 = .ok (.goto 17, 3) := by decide +kernel
theorem u127_14 {d : Nat} {ls : Lo} {st : List Va} {σ : Sg} {Q : Rs → Sg → Prop} : Wx d 127 14 ls st σ Q ↔ Wx d 127 31 ls st σ Q := u_goto d127_14 (by decide)
theorem d127_17 : decode (mB 127) 17 = .ok (.iload_n 2, 1) := by decide +kernel
theorem u127_17 {d : Nat} {ls : Lo} {st : List Va} {σ : Sg} {Q : Rs → Sg → Prop} : Wx d 127 17 ls st σ Q ↔ Li (lget ls 2) (fun z => Wx d 127 18 ls (vi z :: st) σ Q) := u_iload_n d127_17
theorem d127_18 : decode (mB 127) 18 = .ok (.ifCond .lt 8, 3) := by decide +kernel
theorem u127_18 {d : Nat} {ls : Lo} {st : List Va} {σ : Sg} {Q : Rs → Sg → Prop} {a : Int} (h : -2147483648 ≤ a ∧ a ≤ 2147483647) : Wx d 127 18 ls (vi a :: st) σ Q ↔ if a < 0 then Wx d 127 26 ls st σ Q else Wx d 127 21 ls st σ Q := u_iflt d127_18 (by decide) h
theorem d127_21 : decode (mB 127) 21 = .ok (.iload_n 2, 1) := by decide +kernel
theorem u127_21 {d : Nat} {ls : Lo} {st : List Va} {σ : Sg} {Q : Rs → Sg → Prop} : Wx d 127 21 ls st σ Q ↔ Li (lget ls 2) (fun z => Wx d 127 22 ls (vi z :: st) σ Q) := u_iload_n d127_21
theorem d127_22 : decode (mB 127) 22 = .ok (.iconst 2, 1) := by decide +kernel
theorem u127_22 {d : Nat} {ls : Lo} {st : List Va} {σ : Sg} {Q : Rs → Sg → Prop} : Wx d 127 22 ls st σ Q ↔ Wx d 127 23 ls (vi 2 :: st) σ Q := u_iconst d127_22
theorem d127_23 : decode (mB 127) 23 = .ok (.if_icmp .le 7, 3) := by decide +kernel
theorem u127_23 {d : Nat} {ls : Lo} {st : List Va} {σ : Sg} {Q : Rs → Sg → Prop} {a b : Int} (h : -2147483648 ≤ a ∧ a ≤ 2147483647) (h2 : -2147483648 ≤ b ∧ b ≤ 2147483647) : Wx d 127 23 ls (vi b :: vi a :: st) σ Q ↔ if a ≤ b then Wx d 127 30 ls st σ Q else Wx d 127 26 ls st σ Q := u_icle d127_23 (by decide) h h2
theorem d127_26 : decode (mB 127) 26 = .ok (.iconst 2, 1) := by decide +kernel
theorem u127_26 {d : Nat} {ls : Lo} {st : List Va} {σ : Sg} {Q : Rs → Sg → Prop} : Wx d 127 26 ls st σ Q ↔ Wx d 127 27 ls (vi 2 :: st) σ Q := u_iconst d127_26
theorem d127_27 : decode (mB 127) 27 = .ok (.goto 4, 3) := by decide +kernel
theorem u127_27 {d : Nat} {ls : Lo} {st : List Va} {σ : Sg} {Q : Rs → Sg → Prop} : Wx d 127 27 ls st σ Q ↔ Wx d 127 31 ls st σ Q := u_goto d127_27 (by decide)
theorem d127_30 : decode (mB 127) 30 = .ok (.iconst 0, 1) := by decide +kernel
theorem u127_30 {d : Nat} {ls : Lo} {st : List Va} {σ : Sg} {Q : Rs → Sg → Prop} : Wx d 127 30 ls st σ Q ↔ Wx d 127 31 ls (vi 0 :: st) σ Q := u_iconst d127_30
theorem d127_31 : decode (mB 127) 31 = .ok (.putfield 108, 3) := by decide +kernel
theorem u127_31 {d : Nat} {ls : Lo} {st : List Va} {σ : Sg} {Q : Rs → Sg → Prop} {z : Int} {g j : Nat} : Wx d 127 31 ls (vi z :: vr g j :: st) σ Q ↔ (isO g j 7 ∧ rf g j 0 = none) ∧ Wx d 127 34 ls st (up σ g j 0 z) Q := u_put (w := (7, 0)) d127_31 rfl rfl rfl
theorem d127_34 : decode (mB 127) 34 = .ok (.aload_n 0, 1) := by decide +kernel
theorem u127_34 {d : Nat} {ls : Lo} {st : List Va} {σ : Sg} {Q : Rs → Sg → Prop} : Wx d 127 34 ls st σ Q ↔ Lr (lget ls 0) (fun z => Wx d 127 35 ls (.inr (.inl z) :: st) σ Q) := u_aload_n d127_34
theorem d127_35 : decode (mB 127) 35 = .ok (.getfield 108, 3) := by decide +kernel
theorem u127_35 {d : Nat} {ls : Lo} {st : List Va} {σ : Sg} {Q : Rs → Sg → Prop} {g j : Nat} : Wx d 127 35 ls (vr g j :: st) σ Q ↔ isO g j 7 ∧ Wx d 127 38 ls (fvv σ g j 0 :: st) σ Q := u_get (w := (7, 0)) d127_35 rfl
theorem d127_38 : decode (mB 127) 38 = .ok (.ifCond .eq 5, 3) := by decide +kernel
theorem u127_38 {d : Nat} {ls : Lo} {st : List Va} {σ : Sg} {Q : Rs → Sg → Prop} {a : Int} (h : -2147483648 ≤ a ∧ a ≤ 2147483647) : Wx d 127 38 ls (vi a :: st) σ Q ↔ if a = 0 then Wx d 127 43 ls st σ Q else Wx d 127 41 ls st σ Q := u_ifeq d127_38 (by decide) h
theorem d127_41 : decode (mB 127) 41 = .ok (.iconst 0, 1) := by decide +kernel
theorem u127_41 {d : Nat} {ls : Lo} {st : List Va} {σ : Sg} {Q : Rs → Sg → Prop} : Wx d 127 41 ls st σ Q ↔ Wx d 127 42 ls (vi 0 :: st) σ Q := u_iconst d127_41
theorem d127_42 : decode (mB 127) 42 = .ok (.ireturn, 1) := by decide +kernel
theorem u127_42 {d : Nat} {ls : Lo} {σ : Sg} {Q : Rs → Sg → Prop} {z : Int} : Wx d 127 42 ls [vi z] σ Q ↔ Q (.inl (some (vi z))) σ := u_iret d127_42 rfl
theorem d127_43 : decode (mB 127) 43 = .ok (.iload_n 2, 1) := by decide +kernel
theorem u127_43 {d : Nat} {ls : Lo} {st : List Va} {σ : Sg} {Q : Rs → Sg → Prop} : Wx d 127 43 ls st σ Q ↔ Li (lget ls 2) (fun z => Wx d 127 44 ls (vi z :: st) σ Q) := u_iload_n d127_43
theorem d127_44 : decode (mB 127) 44 = .ok (.ifCond .ne 12, 3) := by decide +kernel
theorem u127_44 {d : Nat} {ls : Lo} {st : List Va} {σ : Sg} {Q : Rs → Sg → Prop} {a : Int} (h : -2147483648 ≤ a ∧ a ≤ 2147483647) : Wx d 127 44 ls (vi a :: st) σ Q ↔ if ¬ a = 0 then Wx d 127 56 ls st σ Q else Wx d 127 47 ls st σ Q := u_ifne d127_44 (by decide) h
theorem d127_47 : decode (mB 127) 47 = .ok (.aload_n 0, 1) := by decide +kernel
theorem u127_47 {d : Nat} {ls : Lo} {st : List Va} {σ : Sg} {Q : Rs → Sg → Prop} : Wx d 127 47 ls st σ Q ↔ Lr (lget ls 0) (fun z => Wx d 127 48 ls (.inr (.inl z) :: st) σ Q) := u_aload_n d127_47
theorem d127_48 : decode (mB 127) 48 = .ok (.getfield 93, 3) := by decide +kernel
theorem u127_48 {d : Nat} {ls : Lo} {st : List Va} {σ : Sg} {Q : Rs → Sg → Prop} {g j : Nat} : Wx d 127 48 ls (vr g j :: st) σ Q ↔ isO g j 7 ∧ Wx d 127 51 ls (fvv σ g j 37 :: st) σ Q := u_get (w := (7, 37)) d127_48 rfl
theorem d127_51 : decode (mB 127) 51 = .ok (.iload_n 1, 1) := by decide +kernel
theorem u127_51 {d : Nat} {ls : Lo} {st : List Va} {σ : Sg} {Q : Rs → Sg → Prop} : Wx d 127 51 ls st σ Q ↔ Li (lget ls 1) (fun z => Wx d 127 52 ls (vi z :: st) σ Q) := u_iload_n d127_51
theorem d127_52 : decode (mB 127) 52 = .ok (.iaload, 1) := by decide +kernel
theorem u127_52 {d : Nat} {ls : Lo} {st : List Va} {σ : Sg} {Q : Rs → Sg → Prop} {z : Int} {g j : Nat} : Wx d 127 52 ls (vi z :: vr g j :: st) σ Q ↔ On (ial σ g j z) (fun x => Wx d 127 53 ls (vi x :: st) σ Q) := u_iald d127_52
theorem d127_53 : decode (mB 127) 53 = .ok (.goto 23, 3) := by decide +kernel
theorem u127_53 {d : Nat} {ls : Lo} {st : List Va} {σ : Sg} {Q : Rs → Sg → Prop} : Wx d 127 53 ls st σ Q ↔ Wx d 127 76 ls st σ Q := u_goto d127_53 (by decide)
theorem d127_56 : decode (mB 127) 56 = .ok (.iload_n 2, 1) := by decide +kernel
theorem u127_56 {d : Nat} {ls : Lo} {st : List Va} {σ : Sg} {Q : Rs → Sg → Prop} : Wx d 127 56 ls st σ Q ↔ Li (lget ls 2) (fun z => Wx d 127 57 ls (vi z :: st) σ Q) := u_iload_n d127_56
theorem d127_57 : decode (mB 127) 57 = .ok (.iconst 1, 1) := by decide +kernel
theorem u127_57 {d : Nat} {ls : Lo} {st : List Va} {σ : Sg} {Q : Rs → Sg → Prop} : Wx d 127 57 ls st σ Q ↔ Wx d 127 58 ls (vi 1 :: st) σ Q := u_iconst d127_57
theorem d127_58 : decode (mB 127) 58 = .ok (.if_icmp .ne 12, 3) := by decide +kernel
theorem u127_58 {d : Nat} {ls : Lo} {st : List Va} {σ : Sg} {Q : Rs → Sg → Prop} {a b : Int} (h : -2147483648 ≤ a ∧ a ≤ 2147483647) (h2 : -2147483648 ≤ b ∧ b ≤ 2147483647) : Wx d 127 58 ls (vi b :: vi a :: st) σ Q ↔ if ¬ a = b then Wx d 127 70 ls st σ Q else Wx d 127 61 ls st σ Q := u_icne d127_58 (by decide) h h2
theorem d127_61 : decode (mB 127) 61 = .ok (.aload_n 0, 1) := by decide +kernel
theorem u127_61 {d : Nat} {ls : Lo} {st : List Va} {σ : Sg} {Q : Rs → Sg → Prop} : Wx d 127 61 ls st σ Q ↔ Lr (lget ls 0) (fun z => Wx d 127 62 ls (.inr (.inl z) :: st) σ Q) := u_aload_n d127_61
theorem d127_62 : decode (mB 127) 62 = .ok (.getfield 96, 3) := by decide +kernel
theorem u127_62 {d : Nat} {ls : Lo} {st : List Va} {σ : Sg} {Q : Rs → Sg → Prop} {g j : Nat} : Wx d 127 62 ls (vr g j :: st) σ Q ↔ isO g j 7 ∧ Wx d 127 65 ls (fvv σ g j 38 :: st) σ Q := u_get (w := (7, 38)) d127_62 rfl
theorem d127_65 : decode (mB 127) 65 = .ok (.iload_n 1, 1) := by decide +kernel
theorem u127_65 {d : Nat} {ls : Lo} {st : List Va} {σ : Sg} {Q : Rs → Sg → Prop} : Wx d 127 65 ls st σ Q ↔ Li (lget ls 1) (fun z => Wx d 127 66 ls (vi z :: st) σ Q) := u_iload_n d127_65
theorem d127_66 : decode (mB 127) 66 = .ok (.iaload, 1) := by decide +kernel
theorem u127_66 {d : Nat} {ls : Lo} {st : List Va} {σ : Sg} {Q : Rs → Sg → Prop} {z : Int} {g j : Nat} : Wx d 127 66 ls (vi z :: vr g j :: st) σ Q ↔ On (ial σ g j z) (fun x => Wx d 127 67 ls (vi x :: st) σ Q) := u_iald d127_66
theorem d127_67 : decode (mB 127) 67 = .ok (.goto 9, 3) := by decide +kernel
theorem u127_67 {d : Nat} {ls : Lo} {st : List Va} {σ : Sg} {Q : Rs → Sg → Prop} : Wx d 127 67 ls st σ Q ↔ Wx d 127 76 ls st σ Q := u_goto d127_67 (by decide)
theorem d127_70 : decode (mB 127) 70 = .ok (.aload_n 0, 1) := by decide +kernel
theorem u127_70 {d : Nat} {ls : Lo} {st : List Va} {σ : Sg} {Q : Rs → Sg → Prop} : Wx d 127 70 ls st σ Q ↔ Lr (lget ls 0) (fun z => Wx d 127 71 ls (.inr (.inl z) :: st) σ Q) := u_aload_n d127_70
theorem d127_71 : decode (mB 127) 71 = .ok (.getfield 99, 3) := by decide +kernel
theorem u127_71 {d : Nat} {ls : Lo} {st : List Va} {σ : Sg} {Q : Rs → Sg → Prop} {g j : Nat} : Wx d 127 71 ls (vr g j :: st) σ Q ↔ isO g j 7 ∧ Wx d 127 74 ls (fvv σ g j 39 :: st) σ Q := u_get (w := (7, 39)) d127_71 rfl
theorem d127_74 : decode (mB 127) 74 = .ok (.iload_n 1, 1) := by decide +kernel
theorem u127_74 {d : Nat} {ls : Lo} {st : List Va} {σ : Sg} {Q : Rs → Sg → Prop} : Wx d 127 74 ls st σ Q ↔ Li (lget ls 1) (fun z => Wx d 127 75 ls (vi z :: st) σ Q) := u_iload_n d127_74
theorem d127_75 : decode (mB 127) 75 = .ok (.iaload, 1) := by decide +kernel
theorem u127_75 {d : Nat} {ls : Lo} {st : List Va} {σ : Sg} {Q : Rs → Sg → Prop} {z : Int} {g j : Nat} : Wx d 127 75 ls (vi z :: vr g j :: st) σ Q ↔ On (ial σ g j z) (fun x => Wx d 127 76 ls (vi x :: st) σ Q) := u_iald d127_75
theorem d127_76 : decode (mB 127) 76 = .ok (.ireturn, 1) := by decide +kernel
theorem u127_76 {d : Nat} {ls : Lo} {σ : Sg} {Q : Rs → Sg → Prop} {z : Int} : Wx d 127 76 ls [vi z] σ Q ↔ Q (.inl (some (vi z))) σ := u_iret d127_76 rfl
