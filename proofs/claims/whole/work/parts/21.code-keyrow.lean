/-! 18: FiguredBass$Key.write(IZ)V -/
theorem d18_0 : decode (mB 18) 0 = .ok (.iconst 0, 1) := by decide +kernel
theorem u18_0 {d : Nat} {ls : Lo} {st : List Va} {σ : Sg} {Q : Rs → Sg → Prop} : Wx d 18 0 ls st σ Q ↔ Wx d 18 1 ls (vi 0 :: st) σ Q := u_iconst d18_0
theorem d18_1 : decode (mB 18) 1 = .ok (.istore_n 3, 1) := by decide +kernel
theorem u18_1 {d : Nat} {ls : Lo} {st : List Va} {σ : Sg} {Q : Rs → Sg → Prop} {z : Int} : Wx d 18 1 ls (vi z :: st) σ Q ↔ Wx d 18 2 (lset ls 3 (vi z)) st σ Q := u_istore_n d18_1 (by decide)
theorem d18_2 : decode (mB 18) 2 = .ok (.iload_n 3, 1) := by decide +kernel
theorem u18_2 {d : Nat} {ls : Lo} {st : List Va} {σ : Sg} {Q : Rs → Sg → Prop} : Wx d 18 2 ls st σ Q ↔ Li (lget ls 3) (fun z => Wx d 18 3 ls (vi z :: st) σ Q) := u_iload_n d18_2
theorem d18_3 : decode (mB 18) 3 = .ok (.bipush 7, 2) := by decide +kernel
theorem u18_3 {d : Nat} {ls : Lo} {st : List Va} {σ : Sg} {Q : Rs → Sg → Prop} : Wx d 18 3 ls st σ Q ↔ Wx d 18 5 ls (vi 7 :: st) σ Q := u_bipush d18_3 (by decide)
theorem d18_5 : decode (mB 18) 5 = .ok (.if_icmp .ge 20, 3) := by decide +kernel
theorem u18_5 {d : Nat} {ls : Lo} {st : List Va} {σ : Sg} {Q : Rs → Sg → Prop} {a b : Int} (h : -2147483648 ≤ a ∧ a ≤ 2147483647) (h2 : -2147483648 ≤ b ∧ b ≤ 2147483647) : Wx d 18 5 ls (vi b :: vi a :: st) σ Q ↔ if b ≤ a then Wx d 18 25 ls st σ Q else Wx d 18 8 ls st σ Q := u_icge d18_5 (by decide) h h2
theorem d18_8 : decode (mB 18) 8 = .ok (.aload_n 0, 1) := by decide +kernel
theorem u18_8 {d : Nat} {ls : Lo} {st : List Va} {σ : Sg} {Q : Rs → Sg → Prop} : Wx d 18 8 ls st σ Q ↔ Lr (lget ls 0) (fun z => Wx d 18 9 ls (.inr (.inl z) :: st) σ Q) := u_aload_n d18_8
theorem d18_9 : decode (mB 18) 9 = .ok (.getfield 9, 3) := by decide +kernel
theorem u18_9 {d : Nat} {ls : Lo} {st : List Va} {σ : Sg} {Q : Rs → Sg → Prop} {g j : Nat} : Wx d 18 9 ls (vr g j :: st) σ Q ↔ isO g j 1 ∧ Wx d 18 12 ls (fvv σ g j 0 :: st) σ Q := u_get (w := (1, 0)) d18_9 rfl
theorem d18_12 : decode (mB 18) 12 = .ok (.getstatic 19, 3) := by decide +kernel
theorem u18_12 {d : Nat} {ls : Lo} {st : List Va} {σ : Sg} {Q : Rs → Sg → Prop} : Wx d 18 12 ls st σ Q ↔ Wx d 18 15 ls (vr 13 3 :: st) σ Q := u_gets d18_12 rfl
theorem d18_15 : decode (mB 18) 15 = .ok (.iload_n 3, 1) := by decide +kernel
theorem u18_15 {d : Nat} {ls : Lo} {st : List Va} {σ : Sg} {Q : Rs → Sg → Prop} : Wx d 18 15 ls st σ Q ↔ Li (lget ls 3) (fun z => Wx d 18 16 ls (vi z :: st) σ Q) := u_iload_n d18_15
theorem d18_16 : decode (mB 18) 16 = .ok (.iaload, 1) := by decide +kernel
theorem u18_16 {d : Nat} {ls : Lo} {st : List Va} {σ : Sg} {Q : Rs → Sg → Prop} {z : Int} {g j : Nat} : Wx d 18 16 ls (vi z :: vr g j :: st) σ Q ↔ On (ial σ g j z) (fun x => Wx d 18 17 ls (vi x :: st) σ Q) := u_iald d18_16
theorem d18_17 : decode (mB 18) 17 = .ok (.iconst 0, 1) := by decide +kernel
theorem u18_17 {d : Nat} {ls : Lo} {st : List Va} {σ : Sg} {Q : Rs → Sg → Prop} : Wx d 18 17 ls st σ Q ↔ Wx d 18 18 ls (vi 0 :: st) σ Q := u_iconst d18_17
theorem d18_18 : decode (mB 18) 18 = .ok (.iastore, 1) := by decide +kernel
theorem u18_18 {d : Nat} {ls : Lo} {st : List Va} {σ : Sg} {Q : Rs → Sg → Prop} {x z : Int} {g j : Nat} : Wx d 18 18 ls (vi x :: vi z :: vr g j :: st) σ Q ↔ isA g j 0 z ∧ Wx d 18 19 ls st (up σ g j z.toNat x) Q := u_iast d18_18
theorem d18_19 : decode (mB 18) 19 = .ok (.iinc 3 1, 3) := by decide +kernel
theorem u18_19 {d : Nat} {ls : Lo} {st : List Va} {σ : Sg} {Q : Rs → Sg → Prop} : Wx d 18 19 ls st σ Q ↔ Li (lget ls 3) (fun z => Wx d 18 22 (lset ls 3 (vi (z + 1))) st σ Q) := u_iinc d18_19 (by decide)
theorem d18_22 : decode (mB 18) 22 = .ok (.goto (-20), 3) := by decide +kernel
theorem u18_22 {d : Nat} {ls : Lo} {st : List Va} {σ : Sg} {Q : Rs → Sg → Prop} : Wx d 18 22 ls st σ Q ↔ Wx d 18 2 ls st σ Q := u_goto d18_22 (by decide)
theorem d18_25 : decode (mB 18) 25 = .ok (.iconst 0, 1) := by decide +kernel
theorem u18_25 {d : Nat} {ls : Lo} {st : List Va} {σ : Sg} {Q : Rs → Sg → Prop} : Wx d 18 25 ls st σ Q ↔ Wx d 18 26 ls (vi 0 :: st) σ Q := u_iconst d18_25
theorem d18_26 : decode (mB 18) 26 = .ok (.istore_n 3, 1) := by decide +kernel
theorem u18_26 {d : Nat} {ls : Lo} {st : List Va} {σ : Sg} {Q : Rs → Sg → Prop} {z : Int} : Wx d 18 26 ls (vi z :: st) σ Q ↔ Wx d 18 27 (lset ls 3 (vi z)) st σ Q := u_istore_n d18_26 (by decide)
theorem d18_27 : decode (mB 18) 27 = .ok (.iload_n 3, 1) := by decide +kernel
theorem u18_27 {d : Nat} {ls : Lo} {st : List Va} {σ : Sg} {Q : Rs → Sg → Prop} : Wx d 18 27 ls st σ Q ↔ Li (lget ls 3) (fun z => Wx d 18 28 ls (vi z :: st) σ Q) := u_iload_n d18_27
theorem d18_28 : decode (mB 18) 28 = .ok (.bipush 7, 2) := by decide +kernel
theorem u18_28 {d : Nat} {ls : Lo} {st : List Va} {σ : Sg} {Q : Rs → Sg → Prop} : Wx d 18 28 ls st σ Q ↔ Wx d 18 30 ls (vi 7 :: st) σ Q := u_bipush d18_28 (by decide)
theorem d18_30 : decode (mB 18) 30 = .ok (.if_icmp .ge 25, 3) := by decide +kernel
theorem u18_30 {d : Nat} {ls : Lo} {st : List Va} {σ : Sg} {Q : Rs → Sg → Prop} {a b : Int} (h : -2147483648 ≤ a ∧ a ≤ 2147483647) (h2 : -2147483648 ≤ b ∧ b ≤ 2147483647) : Wx d 18 30 ls (vi b :: vi a :: st) σ Q ↔ if b ≤ a then Wx d 18 55 ls st σ Q else Wx d 18 33 ls st σ Q := u_icge d18_30 (by decide) h h2
theorem d18_33 : decode (mB 18) 33 = .ok (.iload_n 3, 1) := by decide +kernel
theorem u18_33 {d : Nat} {ls : Lo} {st : List Va} {σ : Sg} {Q : Rs → Sg → Prop} : Wx d 18 33 ls st σ Q ↔ Li (lget ls 3) (fun z => Wx d 18 34 ls (vi z :: st) σ Q) := u_iload_n d18_33
theorem d18_34 : decode (mB 18) 34 = .ok (.iload_n 1, 1) := by decide +kernel
theorem u18_34 {d : Nat} {ls : Lo} {st : List Va} {σ : Sg} {Q : Rs → Sg → Prop} : Wx d 18 34 ls st σ Q ↔ Li (lget ls 1) (fun z => Wx d 18 35 ls (vi z :: st) σ Q) := u_iload_n d18_34
theorem d18_35 : decode (mB 18) 35 = .ok (.if_icmp .ge 20, 3) := by decide +kernel
theorem u18_35 {d : Nat} {ls : Lo} {st : List Va} {σ : Sg} {Q : Rs → Sg → Prop} {a b : Int} (h : -2147483648 ≤ a ∧ a ≤ 2147483647) (h2 : -2147483648 ≤ b ∧ b ≤ 2147483647) : Wx d 18 35 ls (vi b :: vi a :: st) σ Q ↔ if b ≤ a then Wx d 18 55 ls st σ Q else Wx d 18 38 ls st σ Q := u_icge d18_35 (by decide) h h2
theorem d18_38 : decode (mB 18) 38 = .ok (.aload_n 0, 1) := by decide +kernel
theorem u18_38 {d : Nat} {ls : Lo} {st : List Va} {σ : Sg} {Q : Rs → Sg → Prop} : Wx d 18 38 ls st σ Q ↔ Lr (lget ls 0) (fun z => Wx d 18 39 ls (.inr (.inl z) :: st) σ Q) := u_aload_n d18_38
theorem d18_39 : decode (mB 18) 39 = .ok (.getfield 9, 3) := by decide +kernel
theorem u18_39 {d : Nat} {ls : Lo} {st : List Va} {σ : Sg} {Q : Rs → Sg → Prop} {g j : Nat} : Wx d 18 39 ls (vr g j :: st) σ Q ↔ isO g j 1 ∧ Wx d 18 42 ls (fvv σ g j 0 :: st) σ Q := u_get (w := (1, 0)) d18_39 rfl
theorem d18_42 : decode (mB 18) 42 = .ok (.getstatic 19, 3) := by decide +kernel
theorem u18_42 {d : Nat} {ls : Lo} {st : List Va} {σ : Sg} {Q : Rs → Sg → Prop} : Wx d 18 42 ls st σ Q ↔ Wx d 18 45 ls (vr 13 3 :: st) σ Q := u_gets d18_42 rfl
theorem d18_45 : decode (mB 18) 45 = .ok (.iload_n 3, 1) := by decide +kernel
theorem u18_45 {d : Nat} {ls : Lo} {st : List Va} {σ : Sg} {Q : Rs → Sg → Prop} : Wx d 18 45 ls st σ Q ↔ Li (lget ls 3) (fun z => Wx d 18 46 ls (vi z :: st) σ Q) := u_iload_n d18_45
theorem d18_46 : decode (mB 18) 46 = .ok (.iaload, 1) := by decide +kernel
theorem u18_46 {d : Nat} {ls : Lo} {st : List Va} {σ : Sg} {Q : Rs → Sg → Prop} {z : Int} {g j : Nat} : Wx d 18 46 ls (vi z :: vr g j :: st) σ Q ↔ On (ial σ g j z) (fun x => Wx d 18 47 ls (vi x :: st) σ Q) := u_iald d18_46
theorem d18_47 : decode (mB 18) 47 = .ok (.iconst 1, 1) := by decide +kernel
theorem u18_47 {d : Nat} {ls : Lo} {st : List Va} {σ : Sg} {Q : Rs → Sg → Prop} : Wx d 18 47 ls st σ Q ↔ Wx d 18 48 ls (vi 1 :: st) σ Q := u_iconst d18_47
theorem d18_48 : decode (mB 18) 48 = .ok (.iastore, 1) := by decide +kernel
theorem u18_48 {d : Nat} {ls : Lo} {st : List Va} {σ : Sg} {Q : Rs → Sg → Prop} {x z : Int} {g j : Nat} : Wx d 18 48 ls (vi x :: vi z :: vr g j :: st) σ Q ↔ isA g j 0 z ∧ Wx d 18 49 ls st (up σ g j z.toNat x) Q := u_iast d18_48
theorem d18_49 : decode (mB 18) 49 = .ok (.iinc 3 1, 3) := by decide +kernel
theorem u18_49 {d : Nat} {ls : Lo} {st : List Va} {σ : Sg} {Q : Rs → Sg → Prop} : Wx d 18 49 ls st σ Q ↔ Li (lget ls 3) (fun z => Wx d 18 52 (lset ls 3 (vi (z + 1))) st σ Q) := u_iinc d18_49 (by decide)
theorem d18_52 : decode (mB 18) 52 = .ok (.goto (-25), 3) := by decide +kernel
theorem u18_52 {d : Nat} {ls : Lo} {st : List Va} {σ : Sg} {Q : Rs → Sg → Prop} : Wx d 18 52 ls st σ Q ↔ Wx d 18 27 ls st σ Q := u_goto d18_52 (by decide)
theorem d18_55 : decode (mB 18) 55 = .ok (.iconst 0, 1) := by decide +kernel
theorem u18_55 {d : Nat} {ls : Lo} {st : List Va} {σ : Sg} {Q : Rs → Sg → Prop} : Wx d 18 55 ls st σ Q ↔ Wx d 18 56 ls (vi 0 :: st) σ Q := u_iconst d18_55
theorem d18_56 : decode (mB 18) 56 = .ok (.istore_n 3, 1) := by decide +kernel
theorem u18_56 {d : Nat} {ls : Lo} {st : List Va} {σ : Sg} {Q : Rs → Sg → Prop} {z : Int} : Wx d 18 56 ls (vi z :: st) σ Q ↔ Wx d 18 57 (lset ls 3 (vi z)) st σ Q := u_istore_n d18_56 (by decide)
theorem d18_57 : decode (mB 18) 57 = .ok (.iload_n 3, 1) := by decide +kernel
theorem u18_57 {d : Nat} {ls : Lo} {st : List Va} {σ : Sg} {Q : Rs → Sg → Prop} : Wx d 18 57 ls st σ Q ↔ Li (lget ls 3) (fun z => Wx d 18 58 ls (vi z :: st) σ Q) := u_iload_n d18_57
theorem d18_58 : decode (mB 18) 58 = .ok (.bipush 7, 2) := by decide +kernel
theorem u18_58 {d : Nat} {ls : Lo} {st : List Va} {σ : Sg} {Q : Rs → Sg → Prop} : Wx d 18 58 ls st σ Q ↔ Wx d 18 60 ls (vi 7 :: st) σ Q := u_bipush d18_58 (by decide)
theorem d18_60 : decode (mB 18) 60 = .ok (.if_icmp .ge 26, 3) := by decide +kernel
theorem u18_60 {d : Nat} {ls : Lo} {st : List Va} {σ : Sg} {Q : Rs → Sg → Prop} {a b : Int} (h : -2147483648 ≤ a ∧ a ≤ 2147483647) (h2 : -2147483648 ≤ b ∧ b ≤ 2147483647) : Wx d 18 60 ls (vi b :: vi a :: st) σ Q ↔ if b ≤ a then Wx d 18 86 ls st σ Q else Wx d 18 63 ls st σ Q := u_icge d18_60 (by decide) h h2
theorem d18_63 : decode (mB 18) 63 = .ok (.iload_n 3, 1) := by decide +kernel
theorem u18_63 {d : Nat} {ls : Lo} {st : List Va} {σ : Sg} {Q : Rs → Sg → Prop} : Wx d 18 63 ls st σ Q ↔ Li (lget ls 3) (fun z => Wx d 18 64 ls (vi z :: st) σ Q) := u_iload_n d18_63
theorem d18_64 : decode (mB 18) 64 = .ok (.iload_n 1, 1) := by decide +kernel
theorem u18_64 {d : Nat} {ls : Lo} {st : List Va} {σ : Sg} {Q : Rs → Sg → Prop} : Wx d 18 64 ls st σ Q ↔ Li (lget ls 1) (fun z => Wx d 18 65 ls (vi z :: st) σ Q) := u_iload_n d18_64
theorem d18_65 : decode (mB 18) 65 = .ok (.ineg, 1) := by decide +kernel
theorem u18_65 {d : Nat} {ls : Lo} {st : List Va} {σ : Sg} {Q : Rs → Sg → Prop} {a : Int} : Wx d 18 65 ls (vi a :: st) σ Q ↔ Wx d 18 66 ls (vi (-a) :: st) σ Q := u_ineg d18_65
theorem d18_66 : decode (mB 18) 66 = .ok (.if_icmp .ge 20, 3) := by decide +kernel
theorem u18_66 {d : Nat} {ls : Lo} {st : List Va} {σ : Sg} {Q : Rs → Sg → Prop} {a b : Int} (h : -2147483648 ≤ a ∧ a ≤ 2147483647) (h2 : -2147483648 ≤ b ∧ b ≤ 2147483647) : Wx d 18 66 ls (vi b :: vi a :: st) σ Q ↔ if b ≤ a then Wx d 18 86 ls st σ Q else Wx d 18 69 ls st σ Q := u_icge d18_66 (by decide) h h2
theorem d18_69 : decode (mB 18) 69 = .ok (.aload_n 0, 1) := by decide +kernel
theorem u18_69 {d : Nat} {ls : Lo} {st : List Va} {σ : Sg} {Q : Rs → Sg → Prop} : Wx d 18 69 ls st σ Q ↔ Lr (lget ls 0) (fun z => Wx d 18 70 ls (.inr (.inl z) :: st) σ Q) := u_aload_n d18_69
theorem d18_70 : decode (mB 18) 70 = .ok (.getfield 9, 3) := by decide +kernel
theorem u18_70 {d : Nat} {ls : Lo} {st : List Va} {σ : Sg} {Q : Rs → Sg → Prop} {g j : Nat} : Wx d 18 70 ls (vr g j :: st) σ Q ↔ isO g j 1 ∧ Wx d 18 73 ls (fvv σ g j 0 :: st) σ Q := u_get (w := (1, 0)) d18_70 rfl
theorem d18_73 : decode (mB 18) 73 = .ok (.getstatic 22, 3) := by decide +kernel
theorem u18_73 {d : Nat} {ls : Lo} {st : List Va} {σ : Sg} {Q : Rs → Sg → Prop} : Wx d 18 73 ls st σ Q ↔ Wx d 18 76 ls (vr 13 4 :: st) σ Q := u_gets d18_73 rfl
theorem d18_76 : decode (mB 18) 76 = .ok (.iload_n 3, 1) := by decide +kernel
theorem u18_76 {d : Nat} {ls : Lo} {st : List Va} {σ : Sg} {Q : Rs → Sg → Prop} : Wx d 18 76 ls st σ Q ↔ Li (lget ls 3) (fun z => Wx d 18 77 ls (vi z :: st) σ Q) := u_iload_n d18_76
theorem d18_77 : decode (mB 18) 77 = .ok (.iaload, 1) := by decide +kernel
theorem u18_77 {d : Nat} {ls : Lo} {st : List Va} {σ : Sg} {Q : Rs → Sg → Prop} {z : Int} {g j : Nat} : Wx d 18 77 ls (vi z :: vr g j :: st) σ Q ↔ On (ial σ g j z) (fun x => Wx d 18 78 ls (vi x :: st) σ Q) := u_iald d18_77
theorem d18_78 : decode (mB 18) 78 = .ok (.iconst (-1), 1) := by decide +kernel
theorem u18_78 {d : Nat} {ls : Lo} {st : List Va} {σ : Sg} {Q : Rs → Sg → Prop} : Wx d 18 78 ls st σ Q ↔ Wx d 18 79 ls (vi (-1) :: st) σ Q := u_iconst d18_78
theorem d18_79 : decode (mB 18) 79 = .ok (.iastore, 1) := by decide +kernel
theorem u18_79 {d : Nat} {ls : Lo} {st : List Va} {σ : Sg} {Q : Rs → Sg → Prop} {x z : Int} {g j : Nat} : Wx d 18 79 ls (vi x :: vi z :: vr g j :: st) σ Q ↔ isA g j 0 z ∧ Wx d 18 80 ls st (up σ g j z.toNat x) Q := u_iast d18_79
theorem d18_80 : decode (mB 18) 80 = .ok (.iinc 3 1, 3) := by decide +kernel
theorem u18_80 {d : Nat} {ls : Lo} {st : List Va} {σ : Sg} {Q : Rs → Sg → Prop} : Wx d 18 80 ls st σ Q ↔ Li (lget ls 3) (fun z => Wx d 18 83 (lset ls 3 (vi (z + 1))) st σ Q) := u_iinc d18_80 (by decide)
theorem d18_83 : decode (mB 18) 83 = .ok (.goto (-26), 3) := by decide +kernel
theorem u18_83 {d : Nat} {ls : Lo} {st : List Va} {σ : Sg} {Q : Rs → Sg → Prop} : Wx d 18 83 ls st σ Q ↔ Wx d 18 57 ls st σ Q := u_goto d18_83 (by decide)
theorem d18_86 : decode (mB 18) 86 = .ok (.iconst 4, 1) := by decide +kernel
theorem u18_86 {d : Nat} {ls : Lo} {st : List Va} {σ : Sg} {Q : Rs → Sg → Prop} : Wx d 18 86 ls st σ Q ↔ Wx d 18 87 ls (vi 4 :: st) σ Q := u_iconst d18_86
theorem d18_87 : decode (mB 18) 87 = .ok (.iload_n 1, 1) := by decide +kernel
theorem u18_87 {d : Nat} {ls : Lo} {st : List Va} {σ : Sg} {Q : Rs → Sg → Prop} : Wx d 18 87 ls st σ Q ↔ Li (lget ls 1) (fun z => Wx d 18 88 ls (vi z :: st) σ Q) := u_iload_n d18_87
theorem d18_88 : decode (mB 18) 88 = .ok (.imul, 1) := by decide +kernel
theorem u18_88 {d : Nat} {ls : Lo} {st : List Va} {σ : Sg} {Q : Rs → Sg → Prop} {a b : Int} : Wx d 18 88 ls (vi b :: vi a :: st) σ Q ↔ Wx d 18 89 ls (vi (a * b) :: st) σ Q := u_imul d18_88
theorem d18_89 : decode (mB 18) 89 = .ok (.iload_n 2, 1) := by decide +kernel
theorem u18_89 {d : Nat} {ls : Lo} {st : List Va} {σ : Sg} {Q : Rs → Sg → Prop} : Wx d 18 89 ls st σ Q ↔ Li (lget ls 2) (fun z => Wx d 18 90 ls (vi z :: st) σ Q) := u_iload_n d18_89
theorem d18_90 : decode (mB 18) 90 = .ok (.ifCond .eq 7, 3) := by decide +kernel
theorem u18_90 {d : Nat} {ls : Lo} {st : List Va} {σ : Sg} {Q : Rs → Sg → Prop} {a : Int} (h : -2147483648 ≤ a ∧ a ≤ 2147483647) : Wx d 18 90 ls (vi a :: st) σ Q ↔ if a = 0 then Wx d 18 97 ls st σ Q else Wx d 18 93 ls st σ Q := u_ifeq d18_90 (by decide) h
theorem d18_93 : decode (mB 18) 93 = .ok (.iconst 5, 1) := by decide +kernel
theorem u18_93 {d : Nat} {ls : Lo} {st : List Va} {σ : Sg} {Q : Rs → Sg → Prop} : Wx d 18 93 ls st σ Q ↔ Wx d 18 94 ls (vi 5 :: st) σ Q := u_iconst d18_93
theorem d18_94 : decode (mB 18) 94 = .ok (.goto 4, 3) := by decide +kernel
theorem u18_94 {d : Nat} {ls : Lo} {st : List Va} {σ : Sg} {Q : Rs → Sg → Prop} : Wx d 18 94 ls st σ Q ↔ Wx d 18 98 ls st σ Q := u_goto d18_94 (by decide)
theorem d18_97 : decode (mB 18) 97 = .ok (.iconst 0, 1) := by decide +kernel
theorem u18_97 {d : Nat} {ls : Lo} {st : List Va} {σ : Sg} {Q : Rs → Sg → Prop} : Wx d 18 97 ls st σ Q ↔ Wx d 18 98 ls (vi 0 :: st) σ Q := u_iconst d18_97
theorem d18_98 : decode (mB 18) 98 = .ok (.iadd, 1) := by decide +kernel
theorem u18_98 {d : Nat} {ls : Lo} {st : List Va} {σ : Sg} {Q : Rs → Sg → Prop} {a b : Int} : Wx d 18 98 ls (vi b :: vi a :: st) σ Q ↔ Wx d 18 99 ls (vi (a + b) :: st) σ Q := u_iadd d18_98
theorem d18_99 : decode (mB 18) 99 = .ok (.bipush 7, 2) := by decide +kernel
theorem u18_99 {d : Nat} {ls : Lo} {st : List Va} {σ : Sg} {Q : Rs → Sg → Prop} : Wx d 18 99 ls st σ Q ↔ Wx d 18 101 ls (vi 7 :: st) σ Q := u_bipush d18_99 (by decide)
theorem d18_101 : decode (mB 18) 101 = .ok (.invokestatic 25, 3) := by decide +kernel
theorem u18_101 {d : Nat} {ls : Lo} {st : List Va} {σ : Sg} {Q : Rs → Sg → Prop} {a1 a2 : Va} : Wx (d + 1) 18 101 ls (a2 :: a1 :: st) σ Q ↔ (st.length ≤ 4 ∧ nlg [a2, a1] = true) ∧ Wm d 128 [a1, a2] σ (Kc (d + 1) 18 104 ls st Q) := u_sta2 d18_101 rfl rfl rfl (by decide) (by decide) (by decide)
theorem d18_104 : decode (mB 18) 104 = .ok (.istore_n 3, 1) := by decide +kernel
theorem u18_104 {d : Nat} {ls : Lo} {st : List Va} {σ : Sg} {Q : Rs → Sg → Prop} {z : Int} : Wx d 18 104 ls (vi z :: st) σ Q ↔ Wx d 18 105 (lset ls 3 (vi z)) st σ Q := u_istore_n d18_104 (by decide)
theorem d18_105 : decode (mB 18) 105 = .ok (.aload_n 0, 1) := by decide +kernel
theorem u18_105 {d : Nat} {ls : Lo} {st : List Va} {σ : Sg} {Q : Rs → Sg → Prop} : Wx d 18 105 ls st σ Q ↔ Lr (lget ls 0) (fun z => Wx d 18 106 ls (.inr (.inl z) :: st) σ Q) := u_aload_n d18_105
theorem d18_106 : decode (mB 18) 106 = .ok (.getstatic 31, 3) := by decide +kernel
theorem u18_106 {d : Nat} {ls : Lo} {st : List Va} {σ : Sg} {Q : Rs → Sg → Prop} : Wx d 18 106 ls st σ Q ↔ Wx d 18 109 ls (vr 13 0 :: st) σ Q := u_gets d18_106 rfl
theorem d18_109 : decode (mB 18) 109 = .ok (.iload_n 3, 1) := by decide +kernel
theorem u18_109 {d : Nat} {ls : Lo} {st : List Va} {σ : Sg} {Q : Rs → Sg → Prop} : Wx d 18 109 ls st σ Q ↔ Li (lget ls 3) (fun z => Wx d 18 110 ls (vi z :: st) σ Q) := u_iload_n d18_109
theorem d18_110 : decode (mB 18) 110 = .ok (.iaload, 1) := by decide +kernel
theorem u18_110 {d : Nat} {ls : Lo} {st : List Va} {σ : Sg} {Q : Rs → Sg → Prop} {z : Int} {g j : Nat} : Wx d 18 110 ls (vi z :: vr g j :: st) σ Q ↔ On (ial σ g j z) (fun x => Wx d 18 111 ls (vi x :: st) σ Q) := u_iald d18_110
theorem d18_111 : decode (mB 18) 111 = .ok (.aload_n 0, 1) := by decide +kernel
theorem u18_111 {d : Nat} {ls : Lo} {st : List Va} {σ : Sg} {Q : Rs → Sg → Prop} : Wx d 18 111 ls st σ Q ↔ Lr (lget ls 0) (fun z => Wx d 18 112 ls (.inr (.inl z) :: st) σ Q) := u_aload_n d18_111
theorem d18_112 : decode (mB 18) 112 = .ok (.getfield 9, 3) := by decide +kernel
theorem u18_112 {d : Nat} {ls : Lo} {st : List Va} {σ : Sg} {Q : Rs → Sg → Prop} {g j : Nat} : Wx d 18 112 ls (vr g j :: st) σ Q ↔ isO g j 1 ∧ Wx d 18 115 ls (fvv σ g j 0 :: st) σ Q := u_get (w := (1, 0)) d18_112 rfl
theorem d18_115 : decode (mB 18) 115 = .ok (.iload_n 3, 1) := by decide +kernel
theorem u18_115 {d : Nat} {ls : Lo} {st : List Va} {σ : Sg} {Q : Rs → Sg → Prop} : Wx d 18 115 ls st σ Q ↔ Li (lget ls 3) (fun z => Wx d 18 116 ls (vi z :: st) σ Q) := u_iload_n d18_115
theorem d18_116 : decode (mB 18) 116 = .ok (.iaload, 1) := by decide +kernel
theorem u18_116 {d : Nat} {ls : Lo} {st : List Va} {σ : Sg} {Q : Rs → Sg → Prop} {z : Int} {g j : Nat} : Wx d 18 116 ls (vi z :: vr g j :: st) σ Q ↔ On (ial σ g j z) (fun x => Wx d 18 117 ls (vi x :: st) σ Q) := u_iald d18_116
theorem d18_117 : decode (mB 18) 117 = .ok (.iadd, 1) := by decide +kernel
theorem u18_117 {d : Nat} {ls : Lo} {st : List Va} {σ : Sg} {Q : Rs → Sg → Prop} {a b : Int} : Wx d 18 117 ls (vi b :: vi a :: st) σ Q ↔ Wx d 18 118 ls (vi (a + b) :: st) σ Q := u_iadd d18_117
theorem d18_118 : decode (mB 18) 118 = .ok (.bipush 11, 2) := by decide +kernel
theorem u18_118 {d : Nat} {ls : Lo} {st : List Va} {σ : Sg} {Q : Rs → Sg → Prop} : Wx d 18 118 ls st σ Q ↔ Wx d 18 120 ls (vi 11 :: st) σ Q := u_bipush d18_118 (by decide)
theorem d18_120 : decode (mB 18) 120 = .ok (.iadd, 1) := by decide +kernel
theorem u18_120 {d : Nat} {ls : Lo} {st : List Va} {σ : Sg} {Q : Rs → Sg → Prop} {a b : Int} : Wx d 18 120 ls (vi b :: vi a :: st) σ Q ↔ Wx d 18 121 ls (vi (a + b) :: st) σ Q := u_iadd d18_120
theorem d18_121 : decode (mB 18) 121 = .ok (.bipush 12, 2) := by decide +kernel
theorem u18_121 {d : Nat} {ls : Lo} {st : List Va} {σ : Sg} {Q : Rs → Sg → Prop} : Wx d 18 121 ls st σ Q ↔ Wx d 18 123 ls (vi 12 :: st) σ Q := u_bipush d18_121 (by decide)
theorem d18_123 : decode (mB 18) 123 = .ok (.invokestatic 25, 3) := by decide +kernel
theorem u18_123 {d : Nat} {ls : Lo} {st : List Va} {σ : Sg} {Q : Rs → Sg → Prop} {a1 a2 : Va} : Wx (d + 1) 18 123 ls (a2 :: a1 :: st) σ Q ↔ (st.length ≤ 4 ∧ nlg [a2, a1] = true) ∧ Wm d 128 [a1, a2] σ (Kc (d + 1) 18 126 ls st Q) := u_sta2 d18_123 rfl rfl rfl (by decide) (by decide) (by decide)
theorem d18_126 : decode (mB 18) 126 = .ok (.putfield 15, 3) := by decide +kernel
theorem u18_126 {d : Nat} {ls : Lo} {st : List Va} {σ : Sg} {Q : Rs → Sg → Prop} {z : Int} {g j : Nat} : Wx d 18 126 ls (vi z :: vr g j :: st) σ Q ↔ (isO g j 1 ∧ rf g j 1 = none) ∧ Wx d 18 129 ls st (up σ g j 1 z) Q := u_put (w := (1, 1)) d18_126 rfl rfl rfl
theorem d18_129 : decode (mB 18) 129 = .ok (.return_, 1) := by decide +kernel
theorem u18_129 {d : Nat} {ls : Lo} {σ : Sg} {Q : Rs → Sg → Prop} : Wx d 18 129 ls [] σ Q ↔ Q (.inl none) σ := u_vret d18_129 rfl
/-! 19: FiguredBass$Key.alterationOf(II)I -/
theorem d19_0 : decode (mB 19) 0 = .ok (.iload_n 2, 1) := by decide +kernel
theorem u19_0 {d : Nat} {ls : Lo} {st : List Va} {σ : Sg} {Q : Rs → Sg → Prop} : Wx d 19 0 ls st σ Q ↔ Li (lget ls 2) (fun z => Wx d 19 1 ls (vi z :: st) σ Q) := u_iload_n d19_0
theorem d19_1 : decode (mB 19) 1 = .ok (.tableswitch 33 1 3 #[27, 29, 31], 27) := by decide +kernel
theorem u19_1 {d : Nat} {ls : Lo} {st : List Va} {σ : Sg} {Q : Rs → Sg → Prop} {a : Int} : Wx d 19 1 ls (vi a :: st) σ Q ↔ On (stpI 19 1 27 (.tableswitch 33 1 3 #[27, 29, 31]) ls (vi a :: st) σ) (fun q => Sum.elim (fun q => Wx d 19 q.1 q.2.1 q.2.2.1 q.2.2.2 Q) (fun _ => False) q) := u_table d19_1
theorem d19_28 : decode (mB 19) 28 = .ok (.iconst 1, 1) := by decide +kernel
theorem u19_28 {d : Nat} {ls : Lo} {st : List Va} {σ : Sg} {Q : Rs → Sg → Prop} : Wx d 19 28 ls st σ Q ↔ Wx d 19 29 ls (vi 1 :: st) σ Q := u_iconst d19_28
theorem d19_29 : decode (mB 19) 29 = .ok (.ireturn, 1) := by decide +kernel
theorem u19_29 {d : Nat} {ls : Lo} {σ : Sg} {Q : Rs → Sg → Prop} {z : Int} : Wx d 19 29 ls [vi z] σ Q ↔ Q (.inl (some (vi z))) σ := u_iret d19_29 rfl
theorem d19_30 : decode (mB 19) 30 = .ok (.iconst (-1), 1) := by decide +kernel
theorem u19_30 {d : Nat} {ls : Lo} {st : List Va} {σ : Sg} {Q : Rs → Sg → Prop} : Wx d 19 30 ls st σ Q ↔ Wx d 19 31 ls (vi (-1) :: st) σ Q := u_iconst d19_30
theorem d19_31 : decode (mB 19) 31 = .ok (.ireturn, 1) := by decide +kernel
theorem u19_31 {d : Nat} {ls : Lo} {σ : Sg} {Q : Rs → Sg → Prop} {z : Int} : Wx d 19 31 ls [vi z] σ Q ↔ Q (.inl (some (vi z))) σ := u_iret d19_31 rfl
theorem d19_32 : decode (mB 19) 32 = .ok (.iconst 0, 1) := by decide +kernel
theorem u19_32 {d : Nat} {ls : Lo} {st : List Va} {σ : Sg} {Q : Rs → Sg → Prop} : Wx d 19 32 ls st σ Q ↔ Wx d 19 33 ls (vi 0 :: st) σ Q := u_iconst d19_32
theorem d19_33 : decode (mB 19) 33 = .ok (.ireturn, 1) := by decide +kernel
theorem u19_33 {d : Nat} {ls : Lo} {σ : Sg} {Q : Rs → Sg → Prop} {z : Int} : Wx d 19 33 ls [vi z] σ Q ↔ Q (.inl (some (vi z))) σ := u_iret d19_33 rfl
theorem d19_34 : decode (mB 19) 34 = .ok (.aload_n 0, 1) := by decide +kernel
theorem u19_34 {d : Nat} {ls : Lo} {st : List Va} {σ : Sg} {Q : Rs → Sg → Prop} : Wx d 19 34 ls st σ Q ↔ Lr (lget ls 0) (fun z => Wx d 19 35 ls (.inr (.inl z) :: st) σ Q) := u_aload_n d19_34
theorem d19_35 : decode (mB 19) 35 = .ok (.getfield 9, 3) := by decide +kernel
theorem u19_35 {d : Nat} {ls : Lo} {st : List Va} {σ : Sg} {Q : Rs → Sg → Prop} {g j : Nat} : Wx d 19 35 ls (vr g j :: st) σ Q ↔ isO g j 1 ∧ Wx d 19 38 ls (fvv σ g j 0 :: st) σ Q := u_get (w := (1, 0)) d19_35 rfl
theorem d19_38 : decode (mB 19) 38 = .ok (.iload_n 1, 1) := by decide +kernel
theorem u19_38 {d : Nat} {ls : Lo} {st : List Va} {σ : Sg} {Q : Rs → Sg → Prop} : Wx d 19 38 ls st σ Q ↔ Li (lget ls 1) (fun z => Wx d 19 39 ls (vi z :: st) σ Q) := u_iload_n d19_38
theorem d19_39 : decode (mB 19) 39 = .ok (.iaload, 1) := by decide +kernel
theorem u19_39 {d : Nat} {ls : Lo} {st : List Va} {σ : Sg} {Q : Rs → Sg → Prop} {z : Int} {g j : Nat} : Wx d 19 39 ls (vi z :: vr g j :: st) σ Q ↔ On (ial σ g j z) (fun x => Wx d 19 40 ls (vi x :: st) σ Q) := u_iald d19_39
theorem d19_40 : decode (mB 19) 40 = .ok (.ireturn, 1) := by decide +kernel
theorem u19_40 {d : Nat} {ls : Lo} {σ : Sg} {Q : Rs → Sg → Prop} {z : Int} : Wx d 19 40 ls [vi z] σ Q ↔ Q (.inl (some (vi z))) σ := u_iret d19_40 rfl
/-! 20: FiguredBass$Row.clear()V -/
theorem d20_0 : decode (mB 20) 0 = .ok (.aload_n 0, 1) := by decide +kernel
theorem u20_0 {d : Nat} {ls : Lo} {st : List Va} {σ : Sg} {Q : Rs → Sg → Prop} : Wx d 20 0 ls st σ Q ↔ Lr (lget ls 0) (fun z => Wx d 20 1 ls (.inr (.inl z) :: st) σ Q) := u_aload_n d20_0
theorem d20_1 : decode (mB 20) 1 = .ok (.iconst 0, 1) := by decide +kernel
theorem u20_1 {d : Nat} {ls : Lo} {st : List Va} {σ : Sg} {Q : Rs → Sg → Prop} : Wx d 20 1 ls st σ Q ↔ Wx d 20 2 ls (vi 0 :: st) σ Q := u_iconst d20_1
theorem d20_2 : decode (mB 20) 2 = .ok (.putfield 18, 3) := by decide +kernel
theorem u20_2 {d : Nat} {ls : Lo} {st : List Va} {σ : Sg} {Q : Rs → Sg → Prop} {z : Int} {g j : Nat} : Wx d 20 2 ls (vi z :: vr g j :: st) σ Q ↔ (isO g j 2 ∧ rf g j 2 = none) ∧ Wx d 20 5 ls st (up σ g j 2 z) Q := u_put (w := (2, 2)) d20_2 rfl rfl rfl
theorem d20_5 : decode (mB 20) 5 = .ok (.return_, 1) := by decide +kernel
theorem u20_5 {d : Nat} {ls : Lo} {σ : Sg} {Q : Rs → Sg → Prop} : Wx d 20 5 ls [] σ Q ↔ Q (.inl none) σ := u_vret d20_5 rfl
/-! 21: FiguredBass$Row.takes(I)Z -/
theorem d21_0 : decode (mB 21) 0 = .ok (.aload_n 0, 1) := by decide +kernel
theorem u21_0 {d : Nat} {ls : Lo} {st : List Va} {σ : Sg} {Q : Rs → Sg → Prop} : Wx d 21 0 ls st σ Q ↔ Lr (lget ls 0) (fun z => Wx d 21 1 ls (.inr (.inl z) :: st) σ Q) := u_aload_n d21_0
theorem d21_1 : decode (mB 21) 1 = .ok (.getfield 18, 3) := by decide +kernel
theorem u21_1 {d : Nat} {ls : Lo} {st : List Va} {σ : Sg} {Q : Rs → Sg → Prop} {g j : Nat} : Wx d 21 1 ls (vr g j :: st) σ Q ↔ isO g j 2 ∧ Wx d 21 4 ls (fvv σ g j 2 :: st) σ Q := u_get (w := (2, 2)) d21_1 rfl
theorem d21_4 : decode (mB 21) 4 = .ok (.iconst 3, 1) := by decide +kernel
theorem u21_4 {d : Nat} {ls : Lo} {st : List Va} {σ : Sg} {Q : Rs → Sg → Prop} : Wx d 21 4 ls st σ Q ↔ Wx d 21 5 ls (vi 3 :: st) σ Q := u_iconst d21_4
theorem d21_5 : decode (mB 21) 5 = .ok (.if_icmp .ge 16, 3) := by decide +kernel
theorem u21_5 {d : Nat} {ls : Lo} {st : List Va} {σ : Sg} {Q : Rs → Sg → Prop} {a b : Int} (h : -2147483648 ≤ a ∧ a ≤ 2147483647) (h2 : -2147483648 ≤ b ∧ b ≤ 2147483647) : Wx d 21 5 ls (vi b :: vi a :: st) σ Q ↔ if b ≤ a then Wx d 21 21 ls st σ Q else Wx d 21 8 ls st σ Q := u_icge d21_5 (by decide) h h2
theorem d21_8 : decode (mB 21) 8 = .ok (.aload_n 0, 1) := by decide +kernel
theorem u21_8 {d : Nat} {ls : Lo} {st : List Va} {σ : Sg} {Q : Rs → Sg → Prop} : Wx d 21 8 ls st σ Q ↔ Lr (lget ls 0) (fun z => Wx d 21 9 ls (.inr (.inl z) :: st) σ Q) := u_aload_n d21_8
theorem d21_9 : decode (mB 21) 9 = .ok (.iload_n 1, 1) := by decide +kernel
theorem u21_9 {d : Nat} {ls : Lo} {st : List Va} {σ : Sg} {Q : Rs → Sg → Prop} : Wx d 21 9 ls st σ Q ↔ Li (lget ls 1) (fun z => Wx d 21 10 ls (vi z :: st) σ Q) := u_iload_n d21_9
theorem d21_10 : decode (mB 21) 10 = .ok (.invokevirtual 22, 3) := by decide +kernel
theorem u21_10 {d : Nat} {ls : Lo} {st : List Va} {σ : Sg} {Q : Rs → Sg → Prop} {g j : Nat} {a1 : Va} : Wx (d + 1) 21 10 ls (a1 :: vr g j :: st) σ Q ↔ (isO g j 2 ∧ st.length ≤ 4 ∧ nlg [a1] = true) ∧ Wm d 23 [vr g j, a1] σ (Kc (d + 1) 21 13 ls st Q) := u_inv1 d21_10 rfl rfl rfl
theorem d21_13 : decode (mB 21) 13 = .ok (.iconst (-1), 1) := by decide +kernel
theorem u21_13 {d : Nat} {ls : Lo} {st : List Va} {σ : Sg} {Q : Rs → Sg → Prop} : Wx d 21 13 ls st σ Q ↔ Wx d 21 14 ls (vi (-1) :: st) σ Q := u_iconst d21_13
theorem d21_14 : decode (mB 21) 14 = .ok (.if_icmp .ne 7, 3) := by decide +kernel
theorem u21_14 {d : Nat} {ls : Lo} {st : List Va} {σ : Sg} {Q : Rs → Sg → Prop} {a b : Int} (h : -2147483648 ≤ a ∧ a ≤ 2147483647) (h2 : -2147483648 ≤ b ∧ b ≤ 2147483647) : Wx d 21 14 ls (vi b :: vi a :: st) σ Q ↔ if ¬ a = b then Wx d 21 21 ls st σ Q else Wx d 21 17 ls st σ Q := u_icne d21_14 (by decide) h h2
theorem d21_17 : decode (mB 21) 17 = .ok (.iconst 1, 1) := by decide +kernel
theorem u21_17 {d : Nat} {ls : Lo} {st : List Va} {σ : Sg} {Q : Rs → Sg → Prop} : Wx d 21 17 ls st σ Q ↔ Wx d 21 18 ls (vi 1 :: st) σ Q := u_iconst d21_17
theorem d21_18 : decode (mB 21) 18 = .ok (.goto 4, 3) := by decide +kernel
theorem u21_18 {d : Nat} {ls : Lo} {st : List Va} {σ : Sg} {Q : Rs → Sg → Prop} : Wx d 21 18 ls st σ Q ↔ Wx d 21 22 ls st σ Q := u_goto d21_18 (by decide)
theorem d21_21 : decode (mB 21) 21 = .ok (.iconst 0, 1) := by decide +kernel
theorem u21_21 {d : Nat} {ls : Lo} {st : List Va} {σ : Sg} {Q : Rs → Sg → Prop} : Wx d 21 21 ls st σ Q ↔ Wx d 21 22 ls (vi 0 :: st) σ Q := u_iconst d21_21
theorem d21_22 : decode (mB 21) 22 = .ok (.ireturn, 1) := by decide +kernel
theorem u21_22 {d : Nat} {ls : Lo} {σ : Sg} {Q : Rs → Sg → Prop} {z : Int} (h : z = 0 ∨ z = 1) : Wx d 21 22 ls [vi z] σ Q ↔ Q (.inl (some (vi z))) σ := u_zret d21_22 rfl h
/-! 22: FiguredBass$Row.add(II)V -/
theorem d22_0 : decode (mB 22) 0 = .ok (.aload_n 0, 1) := by decide +kernel
theorem u22_0 {d : Nat} {ls : Lo} {st : List Va} {σ : Sg} {Q : Rs → Sg → Prop} : Wx d 22 0 ls st σ Q ↔ Lr (lget ls 0) (fun z => Wx d 22 1 ls (.inr (.inl z) :: st) σ Q) := u_aload_n d22_0
theorem d22_1 : decode (mB 22) 1 = .ok (.getfield 18, 3) := by decide +kernel
theorem u22_1 {d : Nat} {ls : Lo} {st : List Va} {σ : Sg} {Q : Rs → Sg → Prop} {g j : Nat} : Wx d 22 1 ls (vr g j :: st) σ Q ↔ isO g j 2 ∧ Wx d 22 4 ls (fvv σ g j 2 :: st) σ Q := u_get (w := (2, 2)) d22_1 rfl
theorem d22_4 : decode (mB 22) 4 = .ok (.iconst 3, 1) := by decide +kernel
theorem u22_4 {d : Nat} {ls : Lo} {st : List Va} {σ : Sg} {Q : Rs → Sg → Prop} : Wx d 22 4 ls st σ Q ↔ Wx d 22 5 ls (vi 3 :: st) σ Q := u_iconst d22_4
theorem d22_5 : decode (mB 22) 5 = .ok (.if_icmp .ge 33, 3) := by decide +kernel
theorem u22_5 {d : Nat} {ls : Lo} {st : List Va} {σ : Sg} {Q : Rs → Sg → Prop} {a b : Int} (h : -2147483648 ≤ a ∧ a ≤ 2147483647) (h2 : -2147483648 ≤ b ∧ b ≤ 2147483647) : Wx d 22 5 ls (vi b :: vi a :: st) σ Q ↔ if b ≤ a then Wx d 22 38 ls st σ Q else Wx d 22 8 ls st σ Q := u_icge d22_5 (by decide) h h2
theorem d22_8 : decode (mB 22) 8 = .ok (.aload_n 0, 1) := by decide +kernel
theorem u22_8 {d : Nat} {ls : Lo} {st : List Va} {σ : Sg} {Q : Rs → Sg → Prop} : Wx d 22 8 ls st σ Q ↔ Lr (lget ls 0) (fun z => Wx d 22 9 ls (.inr (.inl z) :: st) σ Q) := u_aload_n d22_8
theorem d22_9 : decode (mB 22) 9 = .ok (.getfield 9, 3) := by decide +kernel
theorem u22_9 {d : Nat} {ls : Lo} {st : List Va} {σ : Sg} {Q : Rs → Sg → Prop} {g j : Nat} : Wx d 22 9 ls (vr g j :: st) σ Q ↔ isO g j 2 ∧ Wx d 22 12 ls (fvv σ g j 0 :: st) σ Q := u_get (w := (2, 0)) d22_9 rfl
theorem d22_12 : decode (mB 22) 12 = .ok (.aload_n 0, 1) := by decide +kernel
theorem u22_12 {d : Nat} {ls : Lo} {st : List Va} {σ : Sg} {Q : Rs → Sg → Prop} : Wx d 22 12 ls st σ Q ↔ Lr (lget ls 0) (fun z => Wx d 22 13 ls (.inr (.inl z) :: st) σ Q) := u_aload_n d22_12
theorem d22_13 : decode (mB 22) 13 = .ok (.getfield 18, 3) := by decide +kernel
theorem u22_13 {d : Nat} {ls : Lo} {st : List Va} {σ : Sg} {Q : Rs → Sg → Prop} {g j : Nat} : Wx d 22 13 ls (vr g j :: st) σ Q ↔ isO g j 2 ∧ Wx d 22 16 ls (fvv σ g j 2 :: st) σ Q := u_get (w := (2, 2)) d22_13 rfl
theorem d22_16 : decode (mB 22) 16 = .ok (.iload_n 1, 1) := by decide +kernel
theorem u22_16 {d : Nat} {ls : Lo} {st : List Va} {σ : Sg} {Q : Rs → Sg → Prop} : Wx d 22 16 ls st σ Q ↔ Li (lget ls 1) (fun z => Wx d 22 17 ls (vi z :: st) σ Q) := u_iload_n d22_16
theorem d22_17 : decode (mB 22) 17 = .ok (.iastore, 1) := by decide +kernel
theorem u22_17 {d : Nat} {ls : Lo} {st : List Va} {σ : Sg} {Q : Rs → Sg → Prop} {x z : Int} {g j : Nat} : Wx d 22 17 ls (vi x :: vi z :: vr g j :: st) σ Q ↔ isA g j 0 z ∧ Wx d 22 18 ls st (up σ g j z.toNat x) Q := u_iast d22_17
theorem d22_18 : decode (mB 22) 18 = .ok (.aload_n 0, 1) := by decide +kernel
theorem u22_18 {d : Nat} {ls : Lo} {st : List Va} {σ : Sg} {Q : Rs → Sg → Prop} : Wx d 22 18 ls st σ Q ↔ Lr (lget ls 0) (fun z => Wx d 22 19 ls (.inr (.inl z) :: st) σ Q) := u_aload_n d22_18
theorem d22_19 : decode (mB 22) 19 = .ok (.getfield 15, 3) := by decide +kernel
theorem u22_19 {d : Nat} {ls : Lo} {st : List Va} {σ : Sg} {Q : Rs → Sg → Prop} {g j : Nat} : Wx d 22 19 ls (vr g j :: st) σ Q ↔ isO g j 2 ∧ Wx d 22 22 ls (fvv σ g j 1 :: st) σ Q := u_get (w := (2, 1)) d22_19 rfl
theorem d22_22 : decode (mB 22) 22 = .ok (.aload_n 0, 1) := by decide +kernel
theorem u22_22 {d : Nat} {ls : Lo} {st : List Va} {σ : Sg} {Q : Rs → Sg → Prop} : Wx d 22 22 ls st σ Q ↔ Lr (lget ls 0) (fun z => Wx d 22 23 ls (.inr (.inl z) :: st) σ Q) := u_aload_n d22_22
theorem d22_23 : decode (mB 22) 23 = .ok (.getfield 18, 3) := by decide +kernel
theorem u22_23 {d : Nat} {ls : Lo} {st : List Va} {σ : Sg} {Q : Rs → Sg → Prop} {g j : Nat} : Wx d 22 23 ls (vr g j :: st) σ Q ↔ isO g j 2 ∧ Wx d 22 26 ls (fvv σ g j 2 :: st) σ Q := u_get (w := (2, 2)) d22_23 rfl
theorem d22_26 : decode (mB 22) 26 = .ok (.iload_n 2, 1) := by decide +kernel
theorem u22_26 {d : Nat} {ls : Lo} {st : List Va} {σ : Sg} {Q : Rs → Sg → Prop} : Wx d 22 26 ls st σ Q ↔ Li (lget ls 2) (fun z => Wx d 22 27 ls (vi z :: st) σ Q) := u_iload_n d22_26
theorem d22_27 : decode (mB 22) 27 = .ok (.iastore, 1) := by decide +kernel
theorem u22_27 {d : Nat} {ls : Lo} {st : List Va} {σ : Sg} {Q : Rs → Sg → Prop} {x z : Int} {g j : Nat} : Wx d 22 27 ls (vi x :: vi z :: vr g j :: st) σ Q ↔ isA g j 0 z ∧ Wx d 22 28 ls st (up σ g j z.toNat x) Q := u_iast d22_27
theorem d22_28 : decode (mB 22) 28 = .ok (.aload_n 0, 1) := by decide +kernel
theorem u22_28 {d : Nat} {ls : Lo} {st : List Va} {σ : Sg} {Q : Rs → Sg → Prop} : Wx d 22 28 ls st σ Q ↔ Lr (lget ls 0) (fun z => Wx d 22 29 ls (.inr (.inl z) :: st) σ Q) := u_aload_n d22_28
theorem d22_29 : decode (mB 22) 29 = .ok (.dup, 1) := by decide +kernel
theorem u22_29i {d : Nat} {ls : Lo} {st : List Va} {σ : Sg} {Q : Rs → Sg → Prop} {a : Int} : Wx d 22 29 ls (vi a :: st) σ Q ↔ Wx d 22 30 ls (vi a :: vi a :: st) σ Q := u_dupi d22_29
theorem u22_29r {d : Nat} {ls : Lo} {st : List Va} {σ : Sg} {Q : Rs → Sg → Prop} {g j : Nat} : Wx d 22 29 ls (vr g j :: st) σ Q ↔ Wx d 22 30 ls (vr g j :: vr g j :: st) σ Q := u_dupr d22_29
theorem d22_30 : decode (mB 22) 30 = .ok (.getfield 18, 3) := by decide +kernel
theorem u22_30 {d : Nat} {ls : Lo} {st : List Va} {σ : Sg} {Q : Rs → Sg → Prop} {g j : Nat} : Wx d 22 30 ls (vr g j :: st) σ Q ↔ isO g j 2 ∧ Wx d 22 33 ls (fvv σ g j 2 :: st) σ Q := u_get (w := (2, 2)) d22_30 rfl
theorem d22_33 : decode (mB 22) 33 = .ok (.iconst 1, 1) := by decide +kernel
theorem u22_33 {d : Nat} {ls : Lo} {st : List Va} {σ : Sg} {Q : Rs → Sg → Prop} : Wx d 22 33 ls st σ Q ↔ Wx d 22 34 ls (vi 1 :: st) σ Q := u_iconst d22_33
theorem d22_34 : decode (mB 22) 34 = .ok (.iadd, 1) := by decide +kernel
theorem u22_34 {d : Nat} {ls : Lo} {st : List Va} {σ : Sg} {Q : Rs → Sg → Prop} {a b : Int} : Wx d 22 34 ls (vi b :: vi a :: st) σ Q ↔ Wx d 22 35 ls (vi (a + b) :: st) σ Q := u_iadd d22_34
theorem d22_35 : decode (mB 22) 35 = .ok (.putfield 18, 3) := by decide +kernel
theorem u22_35 {d : Nat} {ls : Lo} {st : List Va} {σ : Sg} {Q : Rs → Sg → Prop} {z : Int} {g j : Nat} : Wx d 22 35 ls (vi z :: vr g j :: st) σ Q ↔ (isO g j 2 ∧ rf g j 2 = none) ∧ Wx d 22 38 ls st (up σ g j 2 z) Q := u_put (w := (2, 2)) d22_35 rfl rfl rfl
theorem d22_38 : decode (mB 22) 38 = .ok (.return_, 1) := by decide +kernel
theorem u22_38 {d : Nat} {ls : Lo} {σ : Sg} {Q : Rs → Sg → Prop} : Wx d 22 38 ls [] σ Q ↔ Q (.inl none) σ := u_vret d22_38 rfl
/-! 23: FiguredBass$Row.indexOf(I)I -/
theorem d23_0 : decode (mB 23) 0 = .ok (.iconst 0, 1) := by decide +kernel
theorem u23_0 {d : Nat} {ls : Lo} {st : List Va} {σ : Sg} {Q : Rs → Sg → Prop} : Wx d 23 0 ls st σ Q ↔ Wx d 23 1 ls (vi 0 :: st) σ Q := u_iconst d23_0
theorem d23_1 : decode (mB 23) 1 = .ok (.istore_n 2, 1) := by decide +kernel
theorem u23_1 {d : Nat} {ls : Lo} {st : List Va} {σ : Sg} {Q : Rs → Sg → Prop} {z : Int} : Wx d 23 1 ls (vi z :: st) σ Q ↔ Wx d 23 2 (lset ls 2 (vi z)) st σ Q := u_istore_n d23_1 (by decide)
theorem d23_2 : decode (mB 23) 2 = .ok (.iload_n 2, 1) := by decide +kernel
theorem u23_2 {d : Nat} {ls : Lo} {st : List Va} {σ : Sg} {Q : Rs → Sg → Prop} : Wx d 23 2 ls st σ Q ↔ Li (lget ls 2) (fun z => Wx d 23 3 ls (vi z :: st) σ Q) := u_iload_n d23_2
theorem d23_3 : decode (mB 23) 3 = .ok (.aload_n 0, 1) := by decide +kernel
theorem u23_3 {d : Nat} {ls : Lo} {st : List Va} {σ : Sg} {Q : Rs → Sg → Prop} : Wx d 23 3 ls st σ Q ↔ Lr (lget ls 0) (fun z => Wx d 23 4 ls (.inr (.inl z) :: st) σ Q) := u_aload_n d23_3
theorem d23_4 : decode (mB 23) 4 = .ok (.getfield 18, 3) := by decide +kernel
theorem u23_4 {d : Nat} {ls : Lo} {st : List Va} {σ : Sg} {Q : Rs → Sg → Prop} {g j : Nat} : Wx d 23 4 ls (vr g j :: st) σ Q ↔ isO g j 2 ∧ Wx d 23 7 ls (fvv σ g j 2 :: st) σ Q := u_get (w := (2, 2)) d23_4 rfl
theorem d23_7 : decode (mB 23) 7 = .ok (.if_icmp .ge 21, 3) := by decide +kernel
theorem u23_7 {d : Nat} {ls : Lo} {st : List Va} {σ : Sg} {Q : Rs → Sg → Prop} {a b : Int} (h : -2147483648 ≤ a ∧ a ≤ 2147483647) (h2 : -2147483648 ≤ b ∧ b ≤ 2147483647) : Wx d 23 7 ls (vi b :: vi a :: st) σ Q ↔ if b ≤ a then Wx d 23 28 ls st σ Q else Wx d 23 10 ls st σ Q := u_icge d23_7 (by decide) h h2
theorem d23_10 : decode (mB 23) 10 = .ok (.aload_n 0, 1) := by decide +kernel
theorem u23_10 {d : Nat} {ls : Lo} {st : List Va} {σ : Sg} {Q : Rs → Sg → Prop} : Wx d 23 10 ls st σ Q ↔ Lr (lget ls 0) (fun z => Wx d 23 11 ls (.inr (.inl z) :: st) σ Q) := u_aload_n d23_10
theorem d23_11 : decode (mB 23) 11 = .ok (.getfield 9, 3) := by decide +kernel
theorem u23_11 {d : Nat} {ls : Lo} {st : List Va} {σ : Sg} {Q : Rs → Sg → Prop} {g j : Nat} : Wx d 23 11 ls (vr g j :: st) σ Q ↔ isO g j 2 ∧ Wx d 23 14 ls (fvv σ g j 0 :: st) σ Q := u_get (w := (2, 0)) d23_11 rfl
theorem d23_14 : decode (mB 23) 14 = .ok (.iload_n 2, 1) := by decide +kernel
theorem u23_14 {d : Nat} {ls : Lo} {st : List Va} {σ : Sg} {Q : Rs → Sg → Prop} : Wx d 23 14 ls st σ Q ↔ Li (lget ls 2) (fun z => Wx d 23 15 ls (vi z :: st) σ Q) := u_iload_n d23_14
theorem d23_15 : decode (mB 23) 15 = .ok (.iaload, 1) := by decide +kernel
theorem u23_15 {d : Nat} {ls : Lo} {st : List Va} {σ : Sg} {Q : Rs → Sg → Prop} {z : Int} {g j : Nat} : Wx d 23 15 ls (vi z :: vr g j :: st) σ Q ↔ On (ial σ g j z) (fun x => Wx d 23 16 ls (vi x :: st) σ Q) := u_iald d23_15
theorem d23_16 : decode (mB 23) 16 = .ok (.iload_n 1, 1) := by decide +kernel
theorem u23_16 {d : Nat} {ls : Lo} {st : List Va} {σ : Sg} {Q : Rs → Sg → Prop} : Wx d 23 16 ls st σ Q ↔ Li (lget ls 1) (fun z => Wx d 23 17 ls (vi z :: st) σ Q) := u_iload_n d23_16
theorem d23_17 : decode (mB 23) 17 = .ok (.if_icmp .ne 5, 3) := by decide +kernel
theorem u23_17 {d : Nat} {ls : Lo} {st : List Va} {σ : Sg} {Q : Rs → Sg → Prop} {a b : Int} (h : -2147483648 ≤ a ∧ a ≤ 2147483647) (h2 : -2147483648 ≤ b ∧ b ≤ 2147483647) : Wx d 23 17 ls (vi b :: vi a :: st) σ Q ↔ if ¬ a = b then Wx d 23 22 ls st σ Q else Wx d 23 20 ls st σ Q := u_icne d23_17 (by decide) h h2
theorem d23_20 : decode (mB 23) 20 = .ok (.iload_n 2, 1) := by decide +kernel
theorem u23_20 {d : Nat} {ls : Lo} {st : List Va} {σ : Sg} {Q : Rs → Sg → Prop} : Wx d 23 20 ls st σ Q ↔ Li (lget ls 2) (fun z => Wx d 23 21 ls (vi z :: st) σ Q) := u_iload_n d23_20
theorem d23_21 : decode (mB 23) 21 = .ok (.ireturn, 1) := by decide +kernel
theorem u23_21 {d : Nat} {ls : Lo} {σ : Sg} {Q : Rs → Sg → Prop} {z : Int} : Wx d 23 21 ls [vi z] σ Q ↔ Q (.inl (some (vi z))) σ := u_iret d23_21 rfl
theorem d23_22 : decode (mB 23) 22 = .ok (.iinc 2 1, 3) := by decide +kernel
theorem u23_22 {d : Nat} {ls : Lo} {st : List Va} {σ : Sg} {Q : Rs → Sg → Prop} : Wx d 23 22 ls st σ Q ↔ Li (lget ls 2) (fun z => Wx d 23 25 (lset ls 2 (vi (z + 1))) st σ Q) := u_iinc d23_22 (by decide)
theorem d23_25 : decode (mB 23) 25 = .ok (.goto (-23), 3) := by decide +kernel
theorem u23_25 {d : Nat} {ls : Lo} {st : List Va} {σ : Sg} {Q : Rs → Sg → Prop} : Wx d 23 25 ls st σ Q ↔ Wx d 23 2 ls st σ Q := u_goto d23_25 (by decide)
theorem d23_28 : decode (mB 23) 28 = .ok (.iconst (-1), 1) := by decide +kernel
theorem u23_28 {d : Nat} {ls : Lo} {st : List Va} {σ : Sg} {Q : Rs → Sg → Prop} : Wx d 23 28 ls st σ Q ↔ Wx d 23 29 ls (vi (-1) :: st) σ Q := u_iconst d23_28
theorem d23_29 : decode (mB 23) 29 = .ok (.ireturn, 1) := by decide +kernel
theorem u23_29 {d : Nat} {ls : Lo} {σ : Sg} {Q : Rs → Sg → Prop} {z : Int} : Wx d 23 29 ls [vi z] σ Q ↔ Q (.inl (some (vi z))) σ := u_iret d23_29 rfl
/-! 24: FiguredBass$Row.has(I)Z -/
theorem d24_0 : decode (mB 24) 0 = .ok (.aload_n 0, 1) := by decide +kernel
theorem u24_0 {d : Nat} {ls : Lo} {st : List Va} {σ : Sg} {Q : Rs → Sg → Prop} : Wx d 24 0 ls st σ Q ↔ Lr (lget ls 0) (fun z => Wx d 24 1 ls (.inr (.inl z) :: st) σ Q) := u_aload_n d24_0
theorem d24_1 : decode (mB 24) 1 = .ok (.iload_n 1, 1) := by decide +kernel
theorem u24_1 {d : Nat} {ls : Lo} {st : List Va} {σ : Sg} {Q : Rs → Sg → Prop} : Wx d 24 1 ls st σ Q ↔ Li (lget ls 1) (fun z => Wx d 24 2 ls (vi z :: st) σ Q) := u_iload_n d24_1
theorem d24_2 : decode (mB 24) 2 = .ok (.invokevirtual 22, 3) := by decide +kernel
theorem u24_2 {d : Nat} {ls : Lo} {st : List Va} {σ : Sg} {Q : Rs → Sg → Prop} {g j : Nat} {a1 : Va} : Wx (d + 1) 24 2 ls (a1 :: vr g j :: st) σ Q ↔ (isO g j 2 ∧ st.length ≤ 4 ∧ nlg [a1] = true) ∧ Wm d 23 [vr g j, a1] σ (Kc (d + 1) 24 5 ls st Q) := u_inv1 d24_2 rfl rfl rfl
theorem d24_5 : decode (mB 24) 5 = .ok (.iconst (-1), 1) := by decide +kernel
theorem u24_5 {d : Nat} {ls : Lo} {st : List Va} {σ : Sg} {Q : Rs → Sg → Prop} : Wx d 24 5 ls st σ Q ↔ Wx d 24 6 ls (vi (-1) :: st) σ Q := u_iconst d24_5
theorem d24_6 : decode (mB 24) 6 = .ok (.if_icmp .eq 7, 3) := by decide +kernel
theorem u24_6 {d : Nat} {ls : Lo} {st : List Va} {σ : Sg} {Q : Rs → Sg → Prop} {a b : Int} (h : -2147483648 ≤ a ∧ a ≤ 2147483647) (h2 : -2147483648 ≤ b ∧ b ≤ 2147483647) : Wx d 24 6 ls (vi b :: vi a :: st) σ Q ↔ if a = b then Wx d 24 13 ls st σ Q else Wx d 24 9 ls st σ Q := u_iceq d24_6 (by decide) h h2
theorem d24_9 : decode (mB 24) 9 = .ok (.iconst 1, 1) := by decide +kernel
theorem u24_9 {d : Nat} {ls : Lo} {st : List Va} {σ : Sg} {Q : Rs → Sg → Prop} : Wx d 24 9 ls st σ Q ↔ Wx d 24 10 ls (vi 1 :: st) σ Q := u_iconst d24_9
theorem d24_10 : decode (mB 24) 10 = .ok (.goto 4, 3) := by decide +kernel
theorem u24_10 {d : Nat} {ls : Lo} {st : List Va} {σ : Sg} {Q : Rs → Sg → Prop} : Wx d 24 10 ls st σ Q ↔ Wx d 24 14 ls st σ Q := u_goto d24_10 (by decide)
theorem d24_13 : decode (mB 24) 13 = .ok (.iconst 0, 1) := by decide +kernel
theorem u24_13 {d : Nat} {ls : Lo} {st : List Va} {σ : Sg} {Q : Rs → Sg → Prop} : Wx d 24 13 ls st σ Q ↔ Wx d 24 14 ls (vi 0 :: st) σ Q := u_iconst d24_13
theorem d24_14 : decode (mB 24) 14 = .ok (.ireturn, 1) := by decide +kernel
theorem u24_14 {d : Nat} {ls : Lo} {σ : Sg} {Q : Rs → Sg → Prop} {z : Int} (h : z = 0 ∨ z = 1) : Wx d 24 14 ls [vi z] σ Q ↔ Q (.inl (some (vi z))) σ := u_zret d24_14 rfl h
/-! 25: FiguredBass$Row.spellOut(LFiguredBass$Row;)V -/
theorem d25_0 : decode (mB 25) 0 = .ok (.aload_n 0, 1) := by decide +kernel
theorem u25_0 {d : Nat} {ls : Lo} {st : List Va} {σ : Sg} {Q : Rs → Sg → Prop} : Wx d 25 0 ls st σ Q ↔ Lr (lget ls 0) (fun z => Wx d 25 1 ls (.inr (.inl z) :: st) σ Q) := u_aload_n d25_0
theorem d25_1 : decode (mB 25) 1 = .ok (.invokevirtual 26, 3) := by decide +kernel
theorem u25_1 {d : Nat} {ls : Lo} {st : List Va} {σ : Sg} {Q : Rs → Sg → Prop} {g j : Nat} : Wx (d + 1) 25 1 ls (vr g j :: st) σ Q ↔ (isO g j 2 ∧ st.length ≤ 4 ∧ nlg [] = true) ∧ Wm d 20 [vr g j] σ (Kc (d + 1) 25 4 ls st Q) := u_inv0 d25_1 rfl rfl rfl
theorem d25_4 : decode (mB 25) 4 = .ok (.aload_n 1, 1) := by decide +kernel
theorem u25_4 {d : Nat} {ls : Lo} {st : List Va} {σ : Sg} {Q : Rs → Sg → Prop} : Wx d 25 4 ls st σ Q ↔ Lr (lget ls 1) (fun z => Wx d 25 5 ls (.inr (.inl z) :: st) σ Q) := u_aload_n d25_4
theorem d25_5 : decode (mB 25) 5 = .ok (.invokevirtual 29, 3) := by decide +kernel
theorem u25_5 {d : Nat} {ls : Lo} {st : List Va} {σ : Sg} {Q : Rs → Sg → Prop} {g j : Nat} : Wx (d + 1) 25 5 ls (vr g j :: st) σ Q ↔ (isO g j 2 ∧ st.length ≤ 4 ∧ nlg [] = true) ∧ Wm d 28 [vr g j] σ (Kc (d + 1) 25 8 ls st Q) := u_inv0 d25_5 rfl rfl rfl
theorem d25_8 : decode (mB 25) 8 = .ok (.istore_n 2, 1) := by decide +kernel
theorem u25_8 {d : Nat} {ls : Lo} {st : List Va} {σ : Sg} {Q : Rs → Sg → Prop} {z : Int} : Wx d 25 8 ls (vi z :: st) σ Q ↔ Wx d 25 9 (lset ls 2 (vi z)) st σ Q := u_istore_n d25_8 (by decide)
theorem d25_9 : decode (mB 25) 9 = .ok (.bipush 100, 2) := by decide +kernel
theorem u25_9 {d : Nat} {ls : Lo} {st : List Va} {σ : Sg} {Q : Rs → Sg → Prop} : Wx d 25 9 ls st σ Q ↔ Wx d 25 11 ls (vi 100 :: st) σ Q := u_bipush d25_9 (by decide)
theorem d25_11 : decode (mB 25) 11 = .ok (.istore_n 3, 1) := by decide +kernel
theorem u25_11 {d : Nat} {ls : Lo} {st : List Va} {σ : Sg} {Q : Rs → Sg → Prop} {z : Int} : Wx d 25 11 ls (vi z :: st) σ Q ↔ Wx d 25 12 (lset ls 3 (vi z)) st σ Q := u_istore_n d25_11 (by decide)
theorem d25_12 : decode (mB 25) 12 = .ok (.iload_n 3, 1) := by decide +kernel
theorem u25_12 {d : Nat} {ls : Lo} {st : List Va} {σ : Sg} {Q : Rs → Sg → Prop} : Wx d 25 12 ls st σ Q ↔ Li (lget ls 3) (fun z => Wx d 25 13 ls (vi z :: st) σ Q) := u_iload_n d25_12
theorem d25_13 : decode (mB 25) 13 = .ok (.ifCond .le 55, 3) := by decide +kernel
theorem u25_13 {d : Nat} {ls : Lo} {st : List Va} {σ : Sg} {Q : Rs → Sg → Prop} {a : Int} (h : -2147483648 ≤ a ∧ a ≤ 2147483647) : Wx d 25 13 ls (vi a :: st) σ Q ↔ if a ≤ 0 then Wx d 25 68 ls st σ Q else Wx d 25 16 ls st σ Q := u_ifle d25_13 (by decide) h
theorem d25_16 : decode (mB 25) 16 = .ok (.iload_n 2, 1) := by decide +kernel
theorem u25_16 {d : Nat} {ls : Lo} {st : List Va} {σ : Sg} {Q : Rs → Sg → Prop} : Wx d 25 16 ls st σ Q ↔ Li (lget ls 2) (fun z => Wx d 25 17 ls (vi z :: st) σ Q) := u_iload_n d25_16
theorem d25_17 : decode (mB 25) 17 = .ok (.iload_n 3, 1) := by decide +kernel
theorem u25_17 {d : Nat} {ls : Lo} {st : List Va} {σ : Sg} {Q : Rs → Sg → Prop} : Wx d 25 17 ls st σ Q ↔ Li (lget ls 3) (fun z => Wx d 25 18 ls (vi z :: st) σ Q) := u_iload_n d25_17
theorem d25_18 : decode (mB 25) 18 = .ok (.idiv, 1) := by decide +kernel
theorem u25_18 {d : Nat} {ls : Lo} {st : List Va} {σ : Sg} {Q : Rs → Sg → Prop} {a b : Int} (h : (-2147483648 ≤ a ∧ a ≤ 2147483647) ∧ 0 < b ∧ b ≤ 2147483647) : Wx d 25 18 ls (vi b :: vi a :: st) σ Q ↔ Wx d 25 19 ls (vi (Int.tdiv a b) :: st) σ Q := u_idiv d25_18 h
theorem d25_19 : decode (mB 25) 19 = .ok (.bipush 10, 2) := by decide +kernel
theorem u25_19 {d : Nat} {ls : Lo} {st : List Va} {σ : Sg} {Q : Rs → Sg → Prop} : Wx d 25 19 ls st σ Q ↔ Wx d 25 21 ls (vi 10 :: st) σ Q := u_bipush d25_19 (by decide)
theorem d25_21 : decode (mB 25) 21 = .ok (.irem, 1) := by decide +kernel
theorem u25_21 {d : Nat} {ls : Lo} {st : List Va} {σ : Sg} {Q : Rs → Sg → Prop} {a b : Int} (h : (-2147483648 ≤ a ∧ a ≤ 2147483647) ∧ 0 < b ∧ b ≤ 2147483647) : Wx d 25 21 ls (vi b :: vi a :: st) σ Q ↔ Wx d 25 22 ls (vi (Int.tmod a b) :: st) σ Q := u_irem d25_21 h
theorem d25_22 : decode (mB 25) 22 = .ok (.istore 4, 2) := by decide +kernel
theorem u25_22 {d : Nat} {ls : Lo} {st : List Va} {σ : Sg} {Q : Rs → Sg → Prop} {z : Int} : Wx d 25 22 ls (vi z :: st) σ Q ↔ Wx d 25 24 (lset ls 4 (vi z)) st σ Q := u_istore d25_22 (by decide)
theorem d25_24 : decode (mB 25) 24 = .ok (.iload 4, 2) := by decide +kernel
theorem u25_24 {d : Nat} {ls : Lo} {st : List Va} {σ : Sg} {Q : Rs → Sg → Prop} : Wx d 25 24 ls st σ Q ↔ Li (lget ls 4) (fun z => Wx d 25 26 ls (vi z :: st) σ Q) := u_iload d25_24
theorem d25_26 : decode (mB 25) 26 = .ok (.ifCond .eq 34, 3) := by decide +kernel
theorem u25_26 {d : Nat} {ls : Lo} {st : List Va} {σ : Sg} {Q : Rs → Sg → Prop} {a : Int} (h : -2147483648 ≤ a ∧ a ≤ 2147483647) : Wx d 25 26 ls (vi a :: st) σ Q ↔ if a = 0 then Wx d 25 60 ls st σ Q else Wx d 25 29 ls st σ Q := u_ifeq d25_26 (by decide) h
theorem d25_29 : decode (mB 25) 29 = .ok (.aload_n 1, 1) := by decide +kernel
theorem u25_29 {d : Nat} {ls : Lo} {st : List Va} {σ : Sg} {Q : Rs → Sg → Prop} : Wx d 25 29 ls st σ Q ↔ Lr (lget ls 1) (fun z => Wx d 25 30 ls (.inr (.inl z) :: st) σ Q) := u_aload_n d25_29
theorem d25_30 : decode (mB 25) 30 = .ok (.iload 4, 2) := by decide +kernel
theorem u25_30 {d : Nat} {ls : Lo} {st : List Va} {σ : Sg} {Q : Rs → Sg → Prop} : Wx d 25 30 ls st σ Q ↔ Li (lget ls 4) (fun z => Wx d 25 32 ls (vi z :: st) σ Q) := u_iload d25_30
theorem d25_32 : decode (mB 25) 32 = .ok (.invokevirtual 22, 3) := by decide +kernel
theorem u25_32 {d : Nat} {ls : Lo} {st : List Va} {σ : Sg} {Q : Rs → Sg → Prop} {g j : Nat} {a1 : Va} : Wx (d + 1) 25 32 ls (a1 :: vr g j :: st) σ Q ↔ (isO g j 2 ∧ st.length ≤ 4 ∧ nlg [a1] = true) ∧ Wm d 23 [vr g j, a1] σ (Kc (d + 1) 25 35 ls st Q) := u_inv1 d25_32 rfl rfl rfl
theorem d25_35 : decode (mB 25) 35 = .ok (.istore 5, 2) := by decide +kernel
theorem u25_35 {d : Nat} {ls : Lo} {st : List Va} {σ : Sg} {Q : Rs → Sg → Prop} {z : Int} : Wx d 25 35 ls (vi z :: st) σ Q ↔ Wx d 25 37 (lset ls 5 (vi z)) st σ Q := u_istore d25_35 (by decide)
theorem d25_37 : decode (mB 25) 37 = .ok (.aload_n 0, 1) := by decide +kernel
theorem u25_37 {d : Nat} {ls : Lo} {st : List Va} {σ : Sg} {Q : Rs → Sg → Prop} : Wx d 25 37 ls st σ Q ↔ Lr (lget ls 0) (fun z => Wx d 25 38 ls (.inr (.inl z) :: st) σ Q) := u_aload_n d25_37
theorem d25_38 : decode (mB 25) 38 = .ok (.iload 4, 2) := by decide +kernel
theorem u25_38 {d : Nat} {ls : Lo} {st : List Va} {σ : Sg} {Q : Rs → Sg → Prop} : Wx d 25 38 ls st σ Q ↔ Li (lget ls 4) (fun z => Wx d 25 40 ls (vi z :: st) σ Q) := u_iload d25_38
theorem d25_40 : decode (mB 25) 40 = .ok (.iload 5, 2) := by decide +kernel
theorem u25_40 {d : Nat} {ls : Lo} {st : List Va} {σ : Sg} {Q : Rs → Sg → Prop} : Wx d 25 40 ls st σ Q ↔ Li (lget ls 5) (fun z => Wx d 25 42 ls (vi z :: st) σ Q) := u_iload d25_40
theorem d25_42 : decode (mB 25) 42 = .ok (.iconst (-1), 1) := by decide +kernel
theorem u25_42 {d : Nat} {ls : Lo} {st : List Va} {σ : Sg} {Q : Rs → Sg → Prop} : Wx d 25 42 ls st σ Q ↔ Wx d 25 43 ls (vi (-1) :: st) σ Q := u_iconst d25_42
theorem d25_43 : decode (mB 25) 43 = .ok (.if_icmp .ne 7, 3) := by decide +kernel
theorem u25_43 {d : Nat} {ls : Lo} {st : List Va} {σ : Sg} {Q : Rs → Sg → Prop} {a b : Int} (h : -2147483648 ≤ a ∧ a ≤ 2147483647) (h2 : -2147483648 ≤ b ∧ b ≤ 2147483647) : Wx d 25 43 ls (vi b :: vi a :: st) σ Q ↔ if ¬ a = b then Wx d 25 50 ls st σ Q else Wx d 25 46 ls st σ Q := u_icne d25_43 (by decide) h h2
theorem d25_46 : decode (mB 25) 46 = .ok (.iconst 0, 1) := by decide +kernel
theorem u25_46 {d : Nat} {ls : Lo} {st : List Va} {σ : Sg} {Q : Rs → Sg → Prop} : Wx d 25 46 ls st σ Q ↔ Wx d 25 47 ls (vi 0 :: st) σ Q := u_iconst d25_46
theorem d25_47 : decode (mB 25) 47 = .ok (.goto 10, 3) := by decide +kernel
theorem u25_47 {d : Nat} {ls : Lo} {st : List Va} {σ : Sg} {Q : Rs → Sg → Prop} : Wx d 25 47 ls st σ Q ↔ Wx d 25 57 ls st σ Q := u_goto d25_47 (by decide)
theorem d25_50 : decode (mB 25) 50 = .ok (.aload_n 1, 1) := by decide +kernel
theorem u25_50 {d : Nat} {ls : Lo} {st : List Va} {σ : Sg} {Q : Rs → Sg → Prop} : Wx d 25 50 ls st σ Q ↔ Lr (lget ls 1) (fun z => Wx d 25 51 ls (.inr (.inl z) :: st) σ Q) := u_aload_n d25_50
theorem d25_51 : decode (mB 25) 51 = .ok (.getfield 15, 3) := by decide +kernel
theorem u25_51 {d : Nat} {ls : Lo} {st : List Va} {σ : Sg} {Q : Rs → Sg → Prop} {g j : Nat} : Wx d 25 51 ls (vr g j :: st) σ Q ↔ isO g j 2 ∧ Wx d 25 54 ls (fvv σ g j 1 :: st) σ Q := u_get (w := (2, 1)) d25_51 rfl
theorem d25_54 : decode (mB 25) 54 = .ok (.iload 5, 2) := by decide +kernel
theorem u25_54 {d : Nat} {ls : Lo} {st : List Va} {σ : Sg} {Q : Rs → Sg → Prop} : Wx d 25 54 ls st σ Q ↔ Li (lget ls 5) (fun z => Wx d 25 56 ls (vi z :: st) σ Q) := u_iload d25_54
theorem d25_56 : decode (mB 25) 56 = .ok (.iaload, 1) := by decide +kernel
theorem u25_56 {d : Nat} {ls : Lo} {st : List Va} {σ : Sg} {Q : Rs → Sg → Prop} {z : Int} {g j : Nat} : Wx d 25 56 ls (vi z :: vr g j :: st) σ Q ↔ On (ial σ g j z) (fun x => Wx d 25 57 ls (vi x :: st) σ Q) := u_iald d25_56
theorem d25_57 : decode (mB 25) 57 = .ok (.invokevirtual 33, 3) := by decide +kernel
theorem u25_57 {d : Nat} {ls : Lo} {st : List Va} {σ : Sg} {Q : Rs → Sg → Prop} {g j : Nat} {a1 a2 : Va} : Wx (d + 1) 25 57 ls (a2 :: a1 :: vr g j :: st) σ Q ↔ (isO g j 2 ∧ st.length ≤ 4 ∧ nlg [a2, a1] = true) ∧ Wm d 22 [vr g j, a1, a2] σ (Kc (d + 1) 25 60 ls st Q) := u_inv2 d25_57 rfl rfl rfl
theorem d25_60 : decode (mB 25) 60 = .ok (.iload_n 3, 1) := by decide +kernel
theorem u25_60 {d : Nat} {ls : Lo} {st : List Va} {σ : Sg} {Q : Rs → Sg → Prop} : Wx d 25 60 ls st σ Q ↔ Li (lget ls 3) (fun z => Wx d 25 61 ls (vi z :: st) σ Q) := u_iload_n d25_60
theorem d25_61 : decode (mB 25) 61 = .ok (.bipush 10, 2) := by decide +kernel
theorem u25_61 {d : Nat} {ls : Lo} {st : List Va} {σ : Sg} {Q : Rs → Sg → Prop} : Wx d 25 61 ls st σ Q ↔ Wx d 25 63 ls (vi 10 :: st) σ Q := u_bipush d25_61 (by decide)
theorem d25_63 : decode (mB 25) 63 = .ok (.idiv, 1) := by decide +kernel
theorem u25_63 {d : Nat} {ls : Lo} {st : List Va} {σ : Sg} {Q : Rs → Sg → Prop} {a b : Int} (h : (-2147483648 ≤ a ∧ a ≤ 2147483647) ∧ 0 < b ∧ b ≤ 2147483647) : Wx d 25 63 ls (vi b :: vi a :: st) σ Q ↔ Wx d 25 64 ls (vi (Int.tdiv a b) :: st) σ Q := u_idiv d25_63 h
theorem d25_64 : decode (mB 25) 64 = .ok (.istore_n 3, 1) := by decide +kernel
theorem u25_64 {d : Nat} {ls : Lo} {st : List Va} {σ : Sg} {Q : Rs → Sg → Prop} {z : Int} : Wx d 25 64 ls (vi z :: st) σ Q ↔ Wx d 25 65 (lset ls 3 (vi z)) st σ Q := u_istore_n d25_64 (by decide)
theorem d25_65 : decode (mB 25) 65 = .ok (.goto (-53), 3) := by decide +kernel
theorem u25_65 {d : Nat} {ls : Lo} {st : List Va} {σ : Sg} {Q : Rs → Sg → Prop} : Wx d 25 65 ls st σ Q ↔ Wx d 25 12 ls st σ Q := u_goto d25_65 (by decide)
theorem d25_68 : decode (mB 25) 68 = .ok (.return_, 1) := by decide +kernel
theorem u25_68 {d : Nat} {ls : Lo} {σ : Sg} {Q : Rs → Sg → Prop} : Wx d 25 68 ls [] σ Q ↔ Q (.inl none) σ := u_vret d25_68 rfl
/-! 26: FiguredBass$Row.addsOptionalFifth()Z -/
theorem d26_0 : decode (mB 26) 0 = .ok (.aload_n 0, 1) := by decide +kernel
theorem u26_0 {d : Nat} {ls : Lo} {st : List Va} {σ : Sg} {Q : Rs → Sg → Prop} : Wx d 26 0 ls st σ Q ↔ Lr (lget ls 0) (fun z => Wx d 26 1 ls (.inr (.inl z) :: st) σ Q) := u_aload_n d26_0
theorem d26_1 : decode (mB 26) 1 = .ok (.invokevirtual 37, 3) := by decide +kernel
theorem u26_1 {d : Nat} {ls : Lo} {st : List Va} {σ : Sg} {Q : Rs → Sg → Prop} {g j : Nat} : Wx (d + 1) 26 1 ls (vr g j :: st) σ Q ↔ (isO g j 2 ∧ st.length ≤ 4 ∧ nlg [] = true) ∧ Wm d 27 [vr g j] σ (Kc (d + 1) 26 4 ls st Q) := u_inv0 d26_1 rfl rfl rfl
theorem d26_4 : decode (mB 26) 4 = .ok (.istore_n 1, 1) := by decide +kernel
theorem u26_4 {d : Nat} {ls : Lo} {st : List Va} {σ : Sg} {Q : Rs → Sg → Prop} {z : Int} : Wx d 26 4 ls (vi z :: st) σ Q ↔ Wx d 26 5 (lset ls 1 (vi z)) st σ Q := u_istore_n d26_4 (by decide)
theorem d26_5 : decode (mB 26) 5 = .ok (.iload_n 1, 1) := by decide +kernel
theorem u26_5 {d : Nat} {ls : Lo} {st : List Va} {σ : Sg} {Q : Rs → Sg → Prop} : Wx d 26 5 ls st σ Q ↔ Li (lget ls 1) (fun z => Wx d 26 6 ls (vi z :: st) σ Q) := u_iload_n d26_5
theorem d26_6 : decode (mB 26) 6 = .ok (.ifCond .eq 14, 3) := by decide +kernel
theorem u26_6 {d : Nat} {ls : Lo} {st : List Va} {σ : Sg} {Q : Rs → Sg → Prop} {a : Int} (h : -2147483648 ≤ a ∧ a ≤ 2147483647) : Wx d 26 6 ls (vi a :: st) σ Q ↔ if a = 0 then Wx d 26 20 ls st σ Q else Wx d 26 9 ls st σ Q := u_ifeq d26_6 (by decide) h
theorem d26_9 : decode (mB 26) 9 = .ok (.iload_n 1, 1) := by decide +kernel
theorem u26_9 {d : Nat} {ls : Lo} {st : List Va} {σ : Sg} {Q : Rs → Sg → Prop} : Wx d 26 9 ls st σ Q ↔ Li (lget ls 1) (fun z => Wx d 26 10 ls (vi z :: st) σ Q) := u_iload_n d26_9
theorem d26_10 : decode (mB 26) 10 = .ok (.iconst 3, 1) := by decide +kernel
theorem u26_10 {d : Nat} {ls : Lo} {st : List Va} {σ : Sg} {Q : Rs → Sg → Prop} : Wx d 26 10 ls st σ Q ↔ Wx d 26 11 ls (vi 3 :: st) σ Q := u_iconst d26_10
theorem d26_11 : decode (mB 26) 11 = .ok (.if_icmp .eq 9, 3) := by decide +kernel
theorem u26_11 {d : Nat} {ls : Lo} {st : List Va} {σ : Sg} {Q : Rs → Sg → Prop} {a b : Int} (h : -2147483648 ≤ a ∧ a ≤ 2147483647) (h2 : -2147483648 ≤ b ∧ b ≤ 2147483647) : Wx d 26 11 ls (vi b :: vi a :: st) σ Q ↔ if a = b then Wx d 26 20 ls st σ Q else Wx d 26 14 ls st σ Q := u_iceq d26_11 (by decide) h h2
theorem d26_14 : decode (mB 26) 14 = .ok (.iload_n 1, 1) := by decide +kernel
theorem u26_14 {d : Nat} {ls : Lo} {st : List Va} {σ : Sg} {Q : Rs → Sg → Prop} : Wx d 26 14 ls st σ Q ↔ Li (lget ls 1) (fun z => Wx d 26 15 ls (vi z :: st) σ Q) := u_iload_n d26_14
theorem d26_15 : decode (mB 26) 15 = .ok (.bipush 7, 2) := by decide +kernel
theorem u26_15 {d : Nat} {ls : Lo} {st : List Va} {σ : Sg} {Q : Rs → Sg → Prop} : Wx d 26 15 ls st σ Q ↔ Wx d 26 17 ls (vi 7 :: st) σ Q := u_bipush d26_15 (by decide)
theorem d26_17 : decode (mB 26) 17 = .ok (.if_icmp .ne 7, 3) := by decide +kernel
theorem u26_17 {d : Nat} {ls : Lo} {st : List Va} {σ : Sg} {Q : Rs → Sg → Prop} {a b : Int} (h : -2147483648 ≤ a ∧ a ≤ 2147483647) (h2 : -2147483648 ≤ b ∧ b ≤ 2147483647) : Wx d 26 17 ls (vi b :: vi a :: st) σ Q ↔ if ¬ a = b then Wx d 26 24 ls st σ Q else Wx d 26 20 ls st σ Q := u_icne d26_17 (by decide) h h2
theorem d26_20 : decode (mB 26) 20 = .ok (.iconst 1, 1) := by decide +kernel
theorem u26_20 {d : Nat} {ls : Lo} {st : List Va} {σ : Sg} {Q : Rs → Sg → Prop} : Wx d 26 20 ls st σ Q ↔ Wx d 26 21 ls (vi 1 :: st) σ Q := u_iconst d26_20
theorem d26_21 : decode (mB 26) 21 = .ok (.goto 4, 3) := by decide +kernel
theorem u26_21 {d : Nat} {ls : Lo} {st : List Va} {σ : Sg} {Q : Rs → Sg → Prop} : Wx d 26 21 ls st σ Q ↔ Wx d 26 25 ls st σ Q := u_goto d26_21 (by decide)
theorem d26_24 : decode (mB 26) 24 = .ok (.iconst 0, 1) := by decide +kernel
theorem u26_24 {d : Nat} {ls : Lo} {st : List Va} {σ : Sg} {Q : Rs → Sg → Prop} : Wx d 26 24 ls st σ Q ↔ Wx d 26 25 ls (vi 0 :: st) σ Q := u_iconst d26_24
theorem d26_25 : decode (mB 26) 25 = .ok (.ireturn, 1) := by decide +kernel
theorem u26_25 {d : Nat} {ls : Lo} {σ : Sg} {Q : Rs → Sg → Prop} {z : Int} (h : z = 0 ∨ z = 1) : Wx d 26 25 ls [vi z] σ Q ↔ Q (.inl (some (vi z))) σ := u_zret d26_25 rfl h
/-! 27: FiguredBass$Row.digits()I -/
theorem d27_0 : decode (mB 27) 0 = .ok (.iconst 0, 1) := by decide +kernel
theorem u27_0 {d : Nat} {ls : Lo} {st : List Va} {σ : Sg} {Q : Rs → Sg → Prop} : Wx d 27 0 ls st σ Q ↔ Wx d 27 1 ls (vi 0 :: st) σ Q := u_iconst d27_0
theorem d27_1 : decode (mB 27) 1 = .ok (.istore_n 1, 1) := by decide +kernel
theorem u27_1 {d : Nat} {ls : Lo} {st : List Va} {σ : Sg} {Q : Rs → Sg → Prop} {z : Int} : Wx d 27 1 ls (vi z :: st) σ Q ↔ Wx d 27 2 (lset ls 1 (vi z)) st σ Q := u_istore_n d27_1 (by decide)
theorem d27_2 : decode (mB 27) 2 = .ok (.iconst 0, 1) := by decide +kernel
theorem u27_2 {d : Nat} {ls : Lo} {st : List Va} {σ : Sg} {Q : Rs → Sg → Prop} : Wx d 27 2 ls st σ Q ↔ Wx d 27 3 ls (vi 0 :: st) σ Q := u_iconst d27_2
theorem d27_3 : decode (mB 27) 3 = .ok (.istore_n 2, 1) := by decide +kernel
theorem u27_3 {d : Nat} {ls : Lo} {st : List Va} {σ : Sg} {Q : Rs → Sg → Prop} {z : Int} : Wx d 27 3 ls (vi z :: st) σ Q ↔ Wx d 27 4 (lset ls 2 (vi z)) st σ Q := u_istore_n d27_3 (by decide)
theorem d27_4 : decode (mB 27) 4 = .ok (.iload_n 2, 1) := by decide +kernel
theorem u27_4 {d : Nat} {ls : Lo} {st : List Va} {σ : Sg} {Q : Rs → Sg → Prop} : Wx d 27 4 ls st σ Q ↔ Li (lget ls 2) (fun z => Wx d 27 5 ls (vi z :: st) σ Q) := u_iload_n d27_4
theorem d27_5 : decode (mB 27) 5 = .ok (.aload_n 0, 1) := by decide +kernel
theorem u27_5 {d : Nat} {ls : Lo} {st : List Va} {σ : Sg} {Q : Rs → Sg → Prop} : Wx d 27 5 ls st σ Q ↔ Lr (lget ls 0) (fun z => Wx d 27 6 ls (.inr (.inl z) :: st) σ Q) := u_aload_n d27_5
theorem d27_6 : decode (mB 27) 6 = .ok (.getfield 18, 3) := by decide +kernel
theorem u27_6 {d : Nat} {ls : Lo} {st : List Va} {σ : Sg} {Q : Rs → Sg → Prop} {g j : Nat} : Wx d 27 6 ls (vr g j :: st) σ Q ↔ isO g j 2 ∧ Wx d 27 9 ls (fvv σ g j 2 :: st) σ Q := u_get (w := (2, 2)) d27_6 rfl
theorem d27_9 : decode (mB 27) 9 = .ok (.if_icmp .ge 21, 3) := by decide +kernel
theorem u27_9 {d : Nat} {ls : Lo} {st : List Va} {σ : Sg} {Q : Rs → Sg → Prop} {a b : Int} (h : -2147483648 ≤ a ∧ a ≤ 2147483647) (h2 : -2147483648 ≤ b ∧ b ≤ 2147483647) : Wx d 27 9 ls (vi b :: vi a :: st) σ Q ↔ if b ≤ a then Wx d 27 30 ls st σ Q else Wx d 27 12 ls st σ Q := u_icge d27_9 (by decide) h h2
theorem d27_12 : decode (mB 27) 12 = .ok (.iload_n 1, 1) := by decide +kernel
theorem u27_12 {d : Nat} {ls : Lo} {st : List Va} {σ : Sg} {Q : Rs → Sg → Prop} : Wx d 27 12 ls st σ Q ↔ Li (lget ls 1) (fun z => Wx d 27 13 ls (vi z :: st) σ Q) := u_iload_n d27_12
theorem d27_13 : decode (mB 27) 13 = .ok (.bipush 10, 2) := by decide +kernel
theorem u27_13 {d : Nat} {ls : Lo} {st : List Va} {σ : Sg} {Q : Rs → Sg → Prop} : Wx d 27 13 ls st σ Q ↔ Wx d 27 15 ls (vi 10 :: st) σ Q := u_bipush d27_13 (by decide)
theorem d27_15 : decode (mB 27) 15 = .ok (.imul, 1) := by decide +kernel
theorem u27_15 {d : Nat} {ls : Lo} {st : List Va} {σ : Sg} {Q : Rs → Sg → Prop} {a b : Int} : Wx d 27 15 ls (vi b :: vi a :: st) σ Q ↔ Wx d 27 16 ls (vi (a * b) :: st) σ Q := u_imul d27_15
theorem d27_16 : decode (mB 27) 16 = .ok (.aload_n 0, 1) := by decide +kernel
theorem u27_16 {d : Nat} {ls : Lo} {st : List Va} {σ : Sg} {Q : Rs → Sg → Prop} : Wx d 27 16 ls st σ Q ↔ Lr (lget ls 0) (fun z => Wx d 27 17 ls (.inr (.inl z) :: st) σ Q) := u_aload_n d27_16
theorem d27_17 : decode (mB 27) 17 = .ok (.getfield 9, 3) := by decide +kernel
theorem u27_17 {d : Nat} {ls : Lo} {st : List Va} {σ : Sg} {Q : Rs → Sg → Prop} {g j : Nat} : Wx d 27 17 ls (vr g j :: st) σ Q ↔ isO g j 2 ∧ Wx d 27 20 ls (fvv σ g j 0 :: st) σ Q := u_get (w := (2, 0)) d27_17 rfl
theorem d27_20 : decode (mB 27) 20 = .ok (.iload_n 2, 1) := by decide +kernel
theorem u27_20 {d : Nat} {ls : Lo} {st : List Va} {σ : Sg} {Q : Rs → Sg → Prop} : Wx d 27 20 ls st σ Q ↔ Li (lget ls 2) (fun z => Wx d 27 21 ls (vi z :: st) σ Q) := u_iload_n d27_20
theorem d27_21 : decode (mB 27) 21 = .ok (.iaload, 1) := by decide +kernel
theorem u27_21 {d : Nat} {ls : Lo} {st : List Va} {σ : Sg} {Q : Rs → Sg → Prop} {z : Int} {g j : Nat} : Wx d 27 21 ls (vi z :: vr g j :: st) σ Q ↔ On (ial σ g j z) (fun x => Wx d 27 22 ls (vi x :: st) σ Q) := u_iald d27_21
theorem d27_22 : decode (mB 27) 22 = .ok (.iadd, 1) := by decide +kernel
theorem u27_22 {d : Nat} {ls : Lo} {st : List Va} {σ : Sg} {Q : Rs → Sg → Prop} {a b : Int} : Wx d 27 22 ls (vi b :: vi a :: st) σ Q ↔ Wx d 27 23 ls (vi (a + b) :: st) σ Q := u_iadd d27_22
theorem d27_23 : decode (mB 27) 23 = .ok (.istore_n 1, 1) := by decide +kernel
theorem u27_23 {d : Nat} {ls : Lo} {st : List Va} {σ : Sg} {Q : Rs → Sg → Prop} {z : Int} : Wx d 27 23 ls (vi z :: st) σ Q ↔ Wx d 27 24 (lset ls 1 (vi z)) st σ Q := u_istore_n d27_23 (by decide)
theorem d27_24 : decode (mB 27) 24 = .ok (.iinc 2 1, 3) := by decide +kernel
theorem u27_24 {d : Nat} {ls : Lo} {st : List Va} {σ : Sg} {Q : Rs → Sg → Prop} : Wx d 27 24 ls st σ Q ↔ Li (lget ls 2) (fun z => Wx d 27 27 (lset ls 2 (vi (z + 1))) st σ Q) := u_iinc d27_24 (by decide)
theorem d27_27 : decode (mB 27) 27 = .ok (.goto (-23), 3) := by decide +kernel
theorem u27_27 {d : Nat} {ls : Lo} {st : List Va} {σ : Sg} {Q : Rs → Sg → Prop} : Wx d 27 27 ls st σ Q ↔ Wx d 27 4 ls st σ Q := u_goto d27_27 (by decide)
theorem d27_30 : decode (mB 27) 30 = .ok (.iload_n 1, 1) := by decide +kernel
theorem u27_30 {d : Nat} {ls : Lo} {st : List Va} {σ : Sg} {Q : Rs → Sg → Prop} : Wx d 27 30 ls st σ Q ↔ Li (lget ls 1) (fun z => Wx d 27 31 ls (vi z :: st) σ Q) := u_iload_n d27_30
theorem d27_31 : decode (mB 27) 31 = .ok (.ireturn, 1) := by decide +kernel
theorem u27_31 {d : Nat} {ls : Lo} {σ : Sg} {Q : Rs → Sg → Prop} {z : Int} : Wx d 27 31 ls [vi z] σ Q ↔ Q (.inl (some (vi z))) σ := u_iret d27_31 rfl
/-! 28: FiguredBass$Row.longDigits()I -/
theorem d28_0 : decode (mB 28) 0 = .ok (.aload_n 0, 1) := by decide +kernel
theorem u28_0 {d : Nat} {ls : Lo} {st : List Va} {σ : Sg} {Q : Rs → Sg → Prop} : Wx d 28 0 ls st σ Q ↔ Lr (lget ls 0) (fun z => Wx d 28 1 ls (.inr (.inl z) :: st) σ Q) := u_aload_n d28_0
theorem d28_1 : decode (mB 28) 1 = .ok (.invokevirtual 37, 3) := by decide +kernel
theorem u28_1 {d : Nat} {ls : Lo} {st : List Va} {σ : Sg} {Q : Rs → Sg → Prop} {g j : Nat} : Wx (d + 1) 28 1 ls (vr g j :: st) σ Q ↔ (isO g j 2 ∧ st.length ≤ 4 ∧ nlg [] = true) ∧ Wm d 27 [vr g j] σ (Kc (d + 1) 28 4 ls st Q) := u_inv0 d28_1 rfl rfl rfl
theorem d28_4 : decode (mB 28) 4 = .ok (.istore_n 1, 1) := by decide +kernel
theorem u28_4 {d : Nat} {ls : Lo} {st : List Va} {σ : Sg} {Q : Rs → Sg → Prop} {z : Int} : Wx d 28 4 ls (vi z :: st) σ Q ↔ Wx d 28 5 (lset ls 1 (vi z)) st σ Q := u_istore_n d28_4 (by decide)
theorem d28_5 : decode (mB 28) 5 = .ok (.iconst 0, 1) := by decide +kernel
theorem u28_5 {d : Nat} {ls : Lo} {st : List Va} {σ : Sg} {Q : Rs → Sg → Prop} : Wx d 28 5 ls st σ Q ↔ Wx d 28 6 ls (vi 0 :: st) σ Q := u_iconst d28_5
theorem d28_6 : decode (mB 28) 6 = .ok (.istore_n 2, 1) := by decide +kernel
theorem u28_6 {d : Nat} {ls : Lo} {st : List Va} {σ : Sg} {Q : Rs → Sg → Prop} {z : Int} : Wx d 28 6 ls (vi z :: st) σ Q ↔ Wx d 28 7 (lset ls 2 (vi z)) st σ Q := u_istore_n d28_6 (by decide)
theorem d28_7 : decode (mB 28) 7 = .ok (.iload_n 2, 1) := by decide +kernel
theorem u28_7 {d : Nat} {ls : Lo} {st : List Va} {σ : Sg} {Q : Rs → Sg → Prop} : Wx d 28 7 ls st σ Q ↔ Li (lget ls 2) (fun z => Wx d 28 8 ls (vi z :: st) σ Q) := u_iload_n d28_7
theorem d28_8 : decode (mB 28) 8 = .ok (.getstatic 40, 3) := by decide +kernel
theorem u28_8 {d : Nat} {ls : Lo} {st : List Va} {σ : Sg} {Q : Rs → Sg → Prop} : Wx d 28 8 ls st σ Q ↔ Wx d 28 11 ls (vr 13 5 :: st) σ Q := u_gets d28_8 rfl
theorem d28_11 : decode (mB 28) 11 = .ok (.arraylength, 1) := by decide +kernel
theorem u28_11 {d : Nat} {ls : Lo} {st : List Va} {σ : Sg} {Q : Rs → Sg → Prop} {g j : Nat} : Wx d 28 11 ls (vr g j :: st) σ Q ↔ On (aln σ g j) (fun x => Wx d 28 12 ls (vi x :: st) σ Q) := u_alen d28_11
theorem d28_12 : decode (mB 28) 12 = .ok (.if_icmp .ge 24, 3) := by decide +kernel
theorem u28_12 {d : Nat} {ls : Lo} {st : List Va} {σ : Sg} {Q : Rs → Sg → Prop} {a b : Int} (h : -2147483648 ≤ a ∧ a ≤ 2147483647) (h2 : -2147483648 ≤ b ∧ b ≤ 2147483647) : Wx d 28 12 ls (vi b :: vi a :: st) σ Q ↔ if b ≤ a then Wx d 28 36 ls st σ Q else Wx d 28 15 ls st σ Q := u_icge d28_12 (by decide) h h2
theorem d28_15 : decode (mB 28) 15 = .ok (.getstatic 40, 3) := by decide +kernel
theorem u28_15 {d : Nat} {ls : Lo} {st : List Va} {σ : Sg} {Q : Rs → Sg → Prop} : Wx d 28 15 ls st σ Q ↔ Wx d 28 18 ls (vr 13 5 :: st) σ Q := u_gets d28_15 rfl
theorem d28_18 : decode (mB 28) 18 = .ok (.iload_n 2, 1) := by decide +kernel
theorem u28_18 {d : Nat} {ls : Lo} {st : List Va} {σ : Sg} {Q : Rs → Sg → Prop} : Wx d 28 18 ls st σ Q ↔ Li (lget ls 2) (fun z => Wx d 28 19 ls (vi z :: st) σ Q) := u_iload_n d28_18
theorem d28_19 : decode (mB 28) 19 = .ok (.iaload, 1) := by decide +kernel
theorem u28_19 {d : Nat} {ls : Lo} {st : List Va} {σ : Sg} {Q : Rs → Sg → Prop} {z : Int} {g j : Nat} : Wx d 28 19 ls (vi z :: vr g j :: st) σ Q ↔ On (ial σ g j z) (fun x => Wx d 28 20 ls (vi x :: st) σ Q) := u_iald d28_19
theorem d28_20 : decode (mB 28) 20 = .ok (.iload_n 1, 1) := by decide +kernel
theorem u28_20 {d : Nat} {ls : Lo} {st : List Va} {σ : Sg} {Q : Rs → Sg → Prop} : Wx d 28 20 ls st σ Q ↔ Li (lget ls 1) (fun z => Wx d 28 21 ls (vi z :: st) σ Q) := u_iload_n d28_20
theorem d28_21 : decode (mB 28) 21 = .ok (.if_icmp .ne 9, 3) := by decide +kernel
theorem u28_21 {d : Nat} {ls : Lo} {st : List Va} {σ : Sg} {Q : Rs → Sg → Prop} {a b : Int} (h : -2147483648 ≤ a ∧ a ≤ 2147483647) (h2 : -2147483648 ≤ b ∧ b ≤ 2147483647) : Wx d 28 21 ls (vi b :: vi a :: st) σ Q ↔ if ¬ a = b then Wx d 28 30 ls st σ Q else Wx d 28 24 ls st σ Q := u_icne d28_21 (by decide) h h2
theorem d28_24 : decode (mB 28) 24 = .ok (.getstatic 43, 3) := by decide +kernel
theorem u28_24 {d : Nat} {ls : Lo} {st : List Va} {σ : Sg} {Q : Rs → Sg → Prop} : Wx d 28 24 ls st σ Q ↔ Wx d 28 27 ls (vr 13 6 :: st) σ Q := u_gets d28_24 rfl
theorem d28_27 : decode (mB 28) 27 = .ok (.iload_n 2, 1) := by decide +kernel
theorem u28_27 {d : Nat} {ls : Lo} {st : List Va} {σ : Sg} {Q : Rs → Sg → Prop} : Wx d 28 27 ls st σ Q ↔ Li (lget ls 2) (fun z => Wx d 28 28 ls (vi z :: st) σ Q) := u_iload_n d28_27
theorem d28_28 : decode (mB 28) 28 = .ok (.iaload, 1) := by decide +kernel
theorem u28_28 {d : Nat} {ls : Lo} {st : List Va} {σ : Sg} {Q : Rs → Sg → Prop} {z : Int} {g j : Nat} : Wx d 28 28 ls (vi z :: vr g j :: st) σ Q ↔ On (ial σ g j z) (fun x => Wx d 28 29 ls (vi x :: st) σ Q) := u_iald d28_28
theorem d28_29 : decode (mB 28) 29 = .ok (.ireturn, 1) := by decide +kernel
theorem u28_29 {d : Nat} {ls : Lo} {σ : Sg} {Q : Rs → Sg → Prop} {z : Int} : Wx d 28 29 ls [vi z] σ Q ↔ Q (.inl (some (vi z))) σ := u_iret d28_29 rfl
theorem d28_30 : decode (mB 28) 30 = .ok (.iinc 2 1, 3) := by decide +kernel
theorem u28_30 {d : Nat} {ls : Lo} {st : List Va} {σ : Sg} {Q : Rs → Sg → Prop} : Wx d 28 30 ls st σ Q ↔ Li (lget ls 2) (fun z => Wx d 28 33 (lset ls 2 (vi (z + 1))) st σ Q) := u_iinc d28_30 (by decide)
theorem d28_33 : decode (mB 28) 33 = .ok (.goto (-26), 3) := by decide +kernel
theorem u28_33 {d : Nat} {ls : Lo} {st : List Va} {σ : Sg} {Q : Rs → Sg → Prop} : Wx d 28 33 ls st σ Q ↔ Wx d 28 7 ls st σ Q := u_goto d28_33 (by decide)
theorem d28_36 : decode (mB 28) 36 = .ok (.iload_n 1, 1) := by decide +kernel
theorem u28_36 {d : Nat} {ls : Lo} {st : List Va} {σ : Sg} {Q : Rs → Sg → Prop} : Wx d 28 36 ls st σ Q ↔ Li (lget ls 1) (fun z => Wx d 28 37 ls (vi z :: st) σ Q) := u_iload_n d28_36
theorem d28_37 : decode (mB 28) 37 = .ok (.ireturn, 1) := by decide +kernel
theorem u28_37 {d : Nat} {ls : Lo} {σ : Sg} {Q : Rs → Sg → Prop} {z : Int} : Wx d 28 37 ls [vi z] σ Q ↔ Q (.inl (some (vi z))) σ := u_iret d28_37 rfl
