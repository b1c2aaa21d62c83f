/-! 74: FiguredBassModel.thrown()I -/
theorem d74_0 : decode (mB 74) 0 = .ok (.aload_n 0, 1) := by decide +kernel
theorem u74_0 {d : Nat} {ls : Lo} {st : List Va} {σ : Sg} {Q : Rs → Sg → Prop} : Wx d 74 0 ls st σ Q ↔ Lr (lget ls 0) (fun z => Wx d 74 1 ls (.inr (.inl z) :: st) σ Q) := u_aload_n d74_0
theorem d74_1 : decode (mB 74) 1 = .ok (.getfield 108, 3) := by decide +kernel
theorem u74_1 {d : Nat} {ls : Lo} {st : List Va} {σ : Sg} {Q : Rs → Sg → Prop} {g j : Nat} : Wx d 74 1 ls (vr g j :: st) σ Q ↔ isO g j 7 ∧ Wx d 74 4 ls (fvv σ g j 0 :: st) σ Q := u_get (w := (7, 0)) d74_1 rfl
theorem d74_4 : decode (mB 74) 4 = .ok (.ireturn, 1) := by decide +kernel
theorem u74_4 {d : Nat} {ls : Lo} {σ : Sg} {Q : Rs → Sg → Prop} {z : Int} : Wx d 74 4 ls [vi z] σ Q ↔ Q (.inl (some (vi z))) σ := u_iret d74_4 rfl
/-! 75: FiguredBassModel.modulo(II)I -/
theorem d75_0 : decode (mB 75) 0 = .ok (.iload_n 1, 1) := by decide +kernel
theorem u75_0 {d : Nat} {ls : Lo} {st : List Va} {σ : Sg} {Q : Rs → Sg → Prop} : Wx d 75 0 ls st σ Q ↔ Li (lget ls 1) (fun z => Wx d 75 1 ls (vi z :: st) σ Q) := u_iload_n d75_0
theorem d75_1 : decode (mB 75) 1 = .ok (.iload_n 2, 1) := by decide +kernel
theorem u75_1 {d : Nat} {ls : Lo} {st : List Va} {σ : Sg} {Q : Rs → Sg → Prop} : Wx d 75 1 ls st σ Q ↔ Li (lget ls 2) (fun z => Wx d 75 2 ls (vi z :: st) σ Q) := u_iload_n d75_1
theorem d75_2 : decode (mB 75) 2 = .ok (.irem, 1) := by decide +kernel
theorem u75_2 {d : Nat} {ls : Lo} {st : List Va} {σ : Sg} {Q : Rs → Sg → Prop} {a b : Int} (h : (-2147483648 ≤ a ∧ a ≤ 2147483647) ∧ 0 < b ∧ b ≤ 2147483647) : Wx d 75 2 ls (vi b :: vi a :: st) σ Q ↔ Wx d 75 3 ls (vi (Int.tmod a b) :: st) σ Q := u_irem d75_2 h
theorem d75_3 : decode (mB 75) 3 = .ok (.istore_n 3, 1) := by decide +kernel
theorem u75_3 {d : Nat} {ls : Lo} {st : List Va} {σ : Sg} {Q : Rs → Sg → Prop} {z : Int} : Wx d 75 3 ls (vi z :: st) σ Q ↔ Wx d 75 4 (lset ls 3 (vi z)) st σ Q := u_istore_n d75_3 (by decide)
theorem d75_4 : decode (mB 75) 4 = .ok (.iload_n 3, 1) := by decide +kernel
theorem u75_4 {d : Nat} {ls : Lo} {st : List Va} {σ : Sg} {Q : Rs → Sg → Prop} : Wx d 75 4 ls st σ Q ↔ Li (lget ls 3) (fun z => Wx d 75 5 ls (vi z :: st) σ Q) := u_iload_n d75_4
theorem d75_5 : decode (mB 75) 5 = .ok (.ifCond .ge 9, 3) := by decide +kernel
theorem u75_5 {d : Nat} {ls : Lo} {st : List Va} {σ : Sg} {Q : Rs → Sg → Prop} {a : Int} (h : -2147483648 ≤ a ∧ a ≤ 2147483647) : Wx d 75 5 ls (vi a :: st) σ Q ↔ if 0 ≤ a then Wx d 75 14 ls st σ Q else Wx d 75 8 ls st σ Q := u_ifge d75_5 (by decide) h
theorem d75_8 : decode (mB 75) 8 = .ok (.iload_n 3, 1) := by decide +kernel
theorem u75_8 {d : Nat} {ls : Lo} {st : List Va} {σ : Sg} {Q : Rs → Sg → Prop} : Wx d 75 8 ls st σ Q ↔ Li (lget ls 3) (fun z => Wx d 75 9 ls (vi z :: st) σ Q) := u_iload_n d75_8
theorem d75_9 : decode (mB 75) 9 = .ok (.iload_n 2, 1) := by decide +kernel
theorem u75_9 {d : Nat} {ls : Lo} {st : List Va} {σ : Sg} {Q : Rs → Sg → Prop} : Wx d 75 9 ls st σ Q ↔ Li (lget ls 2) (fun z => Wx d 75 10 ls (vi z :: st) σ Q) := u_iload_n d75_9
theorem d75_10 : decode (mB 75) 10 = .ok (.iadd, 1) := by decide +kernel
theorem u75_10 {d : Nat} {ls : Lo} {st : List Va} {σ : Sg} {Q : Rs → Sg → Prop} {a b : Int} : Wx d 75 10 ls (vi b :: vi a :: st) σ Q ↔ Wx d 75 11 ls (vi (a + b) :: st) σ Q := u_iadd d75_10
theorem d75_11 : decode (mB 75) 11 = .ok (.goto 4, 3) := by decide +kernel
theorem u75_11 {d : Nat} {ls : Lo} {st : List Va} {σ : Sg} {Q : Rs → Sg → Prop} : Wx d 75 11 ls st σ Q ↔ Wx d 75 15 ls st σ Q := u_goto d75_11 (by decide)
theorem d75_14 : decode (mB 75) 14 = .ok (.iload_n 3, 1) := by decide +kernel
theorem u75_14 {d : Nat} {ls : Lo} {st : List Va} {σ : Sg} {Q : Rs → Sg → Prop} : Wx d 75 14 ls st σ Q ↔ Li (lget ls 3) (fun z => Wx d 75 15 ls (vi z :: st) σ Q) := u_iload_n d75_14
theorem d75_15 : decode (mB 75) 15 = .ok (.ireturn, 1) := by decide +kernel
theorem u75_15 {d : Nat} {ls : Lo} {σ : Sg} {Q : Rs → Sg → Prop} {z : Int} : Wx d 75 15 ls [vi z] σ Q ↔ Q (.inl (some (vi z))) σ := u_iret d75_15 rfl
/-! 76: FiguredBassModel.keyAlteration(I)I -/
theorem d76_0 : decode (mB 76) 0 = .ok (.iconst 0, 1) := by decide +kernel
theorem u76_0 {d : Nat} {ls : Lo} {st : List Va} {σ : Sg} {Q : Rs → Sg → Prop} : Wx d 76 0 ls st σ Q ↔ Wx d 76 1 ls (vi 0 :: st) σ Q := u_iconst d76_0
theorem d76_1 : decode (mB 76) 1 = .ok (.istore_n 2, 1) := by decide +kernel
theorem u76_1 {d : Nat} {ls : Lo} {st : List Va} {σ : Sg} {Q : Rs → Sg → Prop} {z : Int} : Wx d 76 1 ls (vi z :: st) σ Q ↔ Wx d 76 2 (lset ls 2 (vi z)) st σ Q := u_istore_n d76_1 (by decide)
theorem d76_2 : decode (mB 76) 2 = .ok (.iload_n 2, 1) := by decide +kernel
theorem u76_2 {d : Nat} {ls : Lo} {st : List Va} {σ : Sg} {Q : Rs → Sg → Prop} : Wx d 76 2 ls st σ Q ↔ Li (lget ls 2) (fun z => Wx d 76 3 ls (vi z :: st) σ Q) := u_iload_n d76_2
theorem d76_3 : decode (mB 76) 3 = .ok (.bipush 7, 2) := by decide +kernel
theorem u76_3 {d : Nat} {ls : Lo} {st : List Va} {σ : Sg} {Q : Rs → Sg → Prop} : Wx d 76 3 ls st σ Q ↔ Wx d 76 5 ls (vi 7 :: st) σ Q := u_bipush d76_3 (by decide)
theorem d76_5 : decode (mB 76) 5 = .ok (.if_icmp .ge 53, 3) := by decide +kernel
theorem u76_5 {d : Nat} {ls : Lo} {st : List Va} {σ : Sg} {Q : Rs → Sg → Prop} {a b : Int} (h : -2147483648 ≤ a ∧ a ≤ 2147483647) (h2 : -2147483648 ≤ b ∧ b ≤ 2147483647) : Wx d 76 5 ls (vi b :: vi a :: st) σ Q ↔ if b ≤ a then Wx d 76 58 ls st σ Q else Wx d 76 8 ls st σ Q := u_icge d76_5 (by decide) h h2
theorem d76_8 : decode (mB 76) 8 = .ok (.iload_n 2, 1) := by decide +kernel
theorem u76_8 {d : Nat} {ls : Lo} {st : List Va} {σ : Sg} {Q : Rs → Sg → Prop} : Wx d 76 8 ls st σ Q ↔ Li (lget ls 2) (fun z => Wx d 76 9 ls (vi z :: st) σ Q) := u_iload_n d76_8
theorem d76_9 : decode (mB 76) 9 = .ok (.aload_n 0, 1) := by decide +kernel
theorem u76_9 {d : Nat} {ls : Lo} {st : List Va} {σ : Sg} {Q : Rs → Sg → Prop} : Wx d 76 9 ls st σ Q ↔ Lr (lget ls 0) (fun z => Wx d 76 10 ls (.inr (.inl z) :: st) σ Q) := u_aload_n d76_9
theorem d76_10 : decode (mB 76) 10 = .ok (.getfield 111, 3) := by decide +kernel
theorem u76_10 {d : Nat} {ls : Lo} {st : List Va} {σ : Sg} {Q : Rs → Sg → Prop} {g j : Nat} : Wx d 76 10 ls (vr g j :: st) σ Q ↔ isO g j 7 ∧ Wx d 76 13 ls (fvv σ g j 5 :: st) σ Q := u_get (w := (7, 5)) d76_10 rfl
theorem d76_13 : decode (mB 76) 13 = .ok (.if_icmp .ge 15, 3) := by decide +kernel
theorem u76_13 {d : Nat} {ls : Lo} {st : List Va} {σ : Sg} {Q : Rs → Sg → Prop} {a b : Int} (h : -2147483648 ≤ a ∧ a ≤ 2147483647) (h2 : -2147483648 ≤ b ∧ b ≤ 2147483647) : Wx d 76 13 ls (vi b :: vi a :: st) σ Q ↔ if b ≤ a then Wx d 76 28 ls st σ Q else Wx d 76 16 ls st σ Q := u_icge d76_13 (by decide) h h2
theorem d76_16 : decode (mB 76) 16 = .ok (.aload_n 0, 1) := by decide +kernel
theorem u76_16 {d : Nat} {ls : Lo} {st : List Va} {σ : Sg} {Q : Rs → Sg → Prop} : Wx d 76 16 ls st σ Q ↔ Lr (lget ls 0) (fun z => Wx d 76 17 ls (.inr (.inl z) :: st) σ Q) := u_aload_n d76_16
theorem d76_17 : decode (mB 76) 17 = .ok (.getfield 13, 3) := by decide +kernel
theorem u76_17 {d : Nat} {ls : Lo} {st : List Va} {σ : Sg} {Q : Rs → Sg → Prop} {g j : Nat} : Wx d 76 17 ls (vr g j :: st) σ Q ↔ isO g j 7 ∧ Wx d 76 20 ls (fvv σ g j 2 :: st) σ Q := u_get (w := (7, 2)) d76_17 rfl
theorem d76_20 : decode (mB 76) 20 = .ok (.iload_n 2, 1) := by decide +kernel
theorem u76_20 {d : Nat} {ls : Lo} {st : List Va} {σ : Sg} {Q : Rs → Sg → Prop} : Wx d 76 20 ls st σ Q ↔ Li (lget ls 2) (fun z => Wx d 76 21 ls (vi z :: st) σ Q) := u_iload_n d76_20
theorem d76_21 : decode (mB 76) 21 = .ok (.iaload, 1) := by decide +kernel
theorem u76_21 {d : Nat} {ls : Lo} {st : List Va} {σ : Sg} {Q : Rs → Sg → Prop} {z : Int} {g j : Nat} : Wx d 76 21 ls (vi z :: vr g j :: st) σ Q ↔ On (ial σ g j z) (fun x => Wx d 76 22 ls (vi x :: st) σ Q) := u_iald d76_21
theorem d76_22 : decode (mB 76) 22 = .ok (.iload_n 1, 1) := by decide +kernel
theorem u76_22 {d : Nat} {ls : Lo} {st : List Va} {σ : Sg} {Q : Rs → Sg → Prop} : Wx d 76 22 ls st σ Q ↔ Li (lget ls 1) (fun z => Wx d 76 23 ls (vi z :: st) σ Q) := u_iload_n d76_22
theorem d76_23 : decode (mB 76) 23 = .ok (.if_icmp .ne 5, 3) := by decide +kernel
theorem u76_23 {d : Nat} {ls : Lo} {st : List Va} {σ : Sg} {Q : Rs → Sg → Prop} {a b : Int} (h : -2147483648 ≤ a ∧ a ≤ 2147483647) (h2 : -2147483648 ≤ b ∧ b ≤ 2147483647) : Wx d 76 23 ls (vi b :: vi a :: st) σ Q ↔ if ¬ a = b then Wx d 76 28 ls st σ Q else Wx d 76 26 ls st σ Q := u_icne d76_23 (by decide) h h2
theorem d76_26 : decode (mB 76) 26 = .ok (.iconst 1, 1) := by decide +kernel
theorem u76_26 {d : Nat} {ls : Lo} {st : List Va} {σ : Sg} {Q : Rs → Sg → Prop} : Wx d 76 26 ls st σ Q ↔ Wx d 76 27 ls (vi 1 :: st) σ Q := u_iconst d76_26
theorem d76_27 : decode (mB 76) 27 = .ok (.ireturn, 1) := by decide +kernel
theorem u76_27 {d : Nat} {ls : Lo} {σ : Sg} {Q : Rs → Sg → Prop} {z : Int} : Wx d 76 27 ls [vi z] σ Q ↔ Q (.inl (some (vi z))) σ := u_iret d76_27 rfl
theorem d76_28 : decode (mB 76) 28 = .ok (.iload_n 2, 1) := by decide +kernel
theorem u76_28 {d : Nat} {ls : Lo} {st : List Va} {σ : Sg} {Q : Rs → Sg → Prop} : Wx d 76 28 ls st σ Q ↔ Li (lget ls 2) (fun z => Wx d 76 29 ls (vi z :: st) σ Q) := u_iload_n d76_28
theorem d76_29 : decode (mB 76) 29 = .ok (.aload_n 0, 1) := by decide +kernel
theorem u76_29 {d : Nat} {ls : Lo} {st : List Va} {σ : Sg} {Q : Rs → Sg → Prop} : Wx d 76 29 ls st σ Q ↔ Lr (lget ls 0) (fun z => Wx d 76 30 ls (.inr (.inl z) :: st) σ Q) := u_aload_n d76_29
theorem d76_30 : decode (mB 76) 30 = .ok (.getfield 111, 3) := by decide +kernel
theorem u76_30 {d : Nat} {ls : Lo} {st : List Va} {σ : Sg} {Q : Rs → Sg → Prop} {g j : Nat} : Wx d 76 30 ls (vr g j :: st) σ Q ↔ isO g j 7 ∧ Wx d 76 33 ls (fvv σ g j 5 :: st) σ Q := u_get (w := (7, 5)) d76_30 rfl
theorem d76_33 : decode (mB 76) 33 = .ok (.ineg, 1) := by decide +kernel
theorem u76_33 {d : Nat} {ls : Lo} {st : List Va} {σ : Sg} {Q : Rs → Sg → Prop} {a : Int} : Wx d 76 33 ls (vi a :: st) σ Q ↔ Wx d 76 34 ls (vi (-a) :: st) σ Q := u_ineg d76_33
theorem d76_34 : decode (mB 76) 34 = .ok (.if_icmp .ge 18, 3) := by decide +kernel
theorem u76_34 {d : Nat} {ls : Lo} {st : List Va} {σ : Sg} {Q : Rs → Sg → Prop} {a b : Int} (h : -2147483648 ≤ a ∧ a ≤ 2147483647) (h2 : -2147483648 ≤ b ∧ b ≤ 2147483647) : Wx d 76 34 ls (vi b :: vi a :: st) σ Q ↔ if b ≤ a then Wx d 76 52 ls st σ Q else Wx d 76 37 ls st σ Q := u_icge d76_34 (by decide) h h2
theorem d76_37 : decode (mB 76) 37 = .ok (.aload_n 0, 1) := by decide +kernel
theorem u76_37 {d : Nat} {ls : Lo} {st : List Va} {σ : Sg} {Q : Rs → Sg → Prop} : Wx d 76 37 ls st σ Q ↔ Lr (lget ls 0) (fun z => Wx d 76 38 ls (.inr (.inl z) :: st) σ Q) := u_aload_n d76_37
theorem d76_38 : decode (mB 76) 38 = .ok (.getfield 13, 3) := by decide +kernel
theorem u76_38 {d : Nat} {ls : Lo} {st : List Va} {σ : Sg} {Q : Rs → Sg → Prop} {g j : Nat} : Wx d 76 38 ls (vr g j :: st) σ Q ↔ isO g j 7 ∧ Wx d 76 41 ls (fvv σ g j 2 :: st) σ Q := u_get (w := (7, 2)) d76_38 rfl
theorem d76_41 : decode (mB 76) 41 = .ok (.bipush 6, 2) := by decide +kernel
theorem u76_41 {d : Nat} {ls : Lo} {st : List Va} {σ : Sg} {Q : Rs → Sg → Prop} : Wx d 76 41 ls st σ Q ↔ Wx d 76 43 ls (vi 6 :: st) σ Q := u_bipush d76_41 (by decide)
theorem d76_43 : decode (mB 76) 43 = .ok (.iload_n 2, 1) := by decide +kernel
theorem u76_43 {d : Nat} {ls : Lo} {st : List Va} {σ : Sg} {Q : Rs → Sg → Prop} : Wx d 76 43 ls st σ Q ↔ Li (lget ls 2) (fun z => Wx d 76 44 ls (vi z :: st) σ Q) := u_iload_n d76_43
theorem d76_44 : decode (mB 76) 44 = .ok (.isub, 1) := by decide +kernel
theorem u76_44 {d : Nat} {ls : Lo} {st : List Va} {σ : Sg} {Q : Rs → Sg → Prop} {a b : Int} : Wx d 76 44 ls (vi b :: vi a :: st) σ Q ↔ Wx d 76 45 ls (vi (a - b) :: st) σ Q := u_isub d76_44
theorem d76_45 : decode (mB 76) 45 = .ok (.iaload, 1) := by decide +kernel
theorem u76_45 {d : Nat} {ls : Lo} {st : List Va} {σ : Sg} {Q : Rs → Sg → Prop} {z : Int} {g j : Nat} : Wx d 76 45 ls (vi z :: vr g j :: st) σ Q ↔ On (ial σ g j z) (fun x => Wx d 76 46 ls (vi x :: st) σ Q) := u_iald d76_45
theorem d76_46 : decode (mB 76) 46 = .ok (.iload_n 1, 1) := by decide +kernel
theorem u76_46 {d : Nat} {ls : Lo} {st : List Va} {σ : Sg} {Q : Rs → Sg → Prop} : Wx d 76 46 ls st σ Q ↔ Li (lget ls 1) (fun z => Wx d 76 47 ls (vi z :: st) σ Q) := u_iload_n d76_46
theorem d76_47 : decode (mB 76) 47 = .ok (.if_icmp .ne 5, 3) := by decide +kernel
theorem u76_47 {d : Nat} {ls : Lo} {st : List Va} {σ : Sg} {Q : Rs → Sg → Prop} {a b : Int} (h : -2147483648 ≤ a ∧ a ≤ 2147483647) (h2 : -2147483648 ≤ b ∧ b ≤ 2147483647) : Wx d 76 47 ls (vi b :: vi a :: st) σ Q ↔ if ¬ a = b then Wx d 76 52 ls st σ Q else Wx d 76 50 ls st σ Q := u_icne d76_47 (by decide) h h2
theorem d76_50 : decode (mB 76) 50 = .ok (.iconst (-1), 1) := by decide +kernel
theorem u76_50 {d : Nat} {ls : Lo} {st : List Va} {σ : Sg} {Q : Rs → Sg → Prop} : Wx d 76 50 ls st σ Q ↔ Wx d 76 51 ls (vi (-1) :: st) σ Q := u_iconst d76_50
theorem d76_51 : decode (mB 76) 51 = .ok (.ireturn, 1) := by decide +kernel
theorem u76_51 {d : Nat} {ls : Lo} {σ : Sg} {Q : Rs → Sg → Prop} {z : Int} : Wx d 76 51 ls [vi z] σ Q ↔ Q (.inl (some (vi z))) σ := u_iret d76_51 rfl
theorem d76_52 : decode (mB 76) 52 = .ok (.iinc 2 1, 3) := by decide +kernel
theorem u76_52 {d : Nat} {ls : Lo} {st : List Va} {σ : Sg} {Q : Rs → Sg → Prop} : Wx d 76 52 ls st σ Q ↔ Li (lget ls 2) (fun z => Wx d 76 55 (lset ls 2 (vi (z + 1))) st σ Q) := u_iinc d76_52 (by decide)
theorem d76_55 : decode (mB 76) 55 = .ok (.goto (-53), 3) := by decide +kernel
theorem u76_55 {d : Nat} {ls : Lo} {st : List Va} {σ : Sg} {Q : Rs → Sg → Prop} : Wx d 76 55 ls st σ Q ↔ Wx d 76 2 ls st σ Q := u_goto d76_55 (by decide)
theorem d76_58 : decode (mB 76) 58 = .ok (.iconst 0, 1) := by decide +kernel
theorem u76_58 {d : Nat} {ls : Lo} {st : List Va} {σ : Sg} {Q : Rs → Sg → Prop} : Wx d 76 58 ls st σ Q ↔ Wx d 76 59 ls (vi 0 :: st) σ Q := u_iconst d76_58
theorem d76_59 : decode (mB 76) 59 = .ok (.ireturn, 1) := by decide +kernel
theorem u76_59 {d : Nat} {ls : Lo} {σ : Sg} {Q : Rs → Sg → Prop} {z : Int} : Wx d 76 59 ls [vi z] σ Q ↔ Q (.inl (some (vi z))) σ := u_iret d76_59 rfl
/-! 77: FiguredBassModel.classOf(II)I -/
theorem d77_0 : decode (mB 77) 0 = .ok (.aload_n 0, 1) := by decide +kernel
theorem u77_0 {d : Nat} {ls : Lo} {st : List Va} {σ : Sg} {Q : Rs → Sg → Prop} : Wx d 77 0 ls st σ Q ↔ Lr (lget ls 0) (fun z => Wx d 77 1 ls (.inr (.inl z) :: st) σ Q) := u_aload_n d77_0
theorem d77_1 : decode (mB 77) 1 = .ok (.aload_n 0, 1) := by decide +kernel
theorem u77_1 {d : Nat} {ls : Lo} {st : List Va} {σ : Sg} {Q : Rs → Sg → Prop} : Wx d 77 1 ls st σ Q ↔ Lr (lget ls 0) (fun z => Wx d 77 2 ls (.inr (.inl z) :: st) σ Q) := u_aload_n d77_1
theorem d77_2 : decode (mB 77) 2 = .ok (.getfield 7, 3) := by decide +kernel
theorem u77_2 {d : Nat} {ls : Lo} {st : List Va} {σ : Sg} {Q : Rs → Sg → Prop} {g j : Nat} : Wx d 77 2 ls (vr g j :: st) σ Q ↔ isO g j 7 ∧ Wx d 77 5 ls (fvv σ g j 1 :: st) σ Q := u_get (w := (7, 1)) d77_2 rfl
theorem d77_5 : decode (mB 77) 5 = .ok (.iload_n 1, 1) := by decide +kernel
theorem u77_5 {d : Nat} {ls : Lo} {st : List Va} {σ : Sg} {Q : Rs → Sg → Prop} : Wx d 77 5 ls st σ Q ↔ Li (lget ls 1) (fun z => Wx d 77 6 ls (vi z :: st) σ Q) := u_iload_n d77_5
theorem d77_6 : decode (mB 77) 6 = .ok (.iaload, 1) := by decide +kernel
theorem u77_6 {d : Nat} {ls : Lo} {st : List Va} {σ : Sg} {Q : Rs → Sg → Prop} {z : Int} {g j : Nat} : Wx d 77 6 ls (vi z :: vr g j :: st) σ Q ↔ On (ial σ g j z) (fun x => Wx d 77 7 ls (vi x :: st) σ Q) := u_iald d77_6
theorem d77_7 : decode (mB 77) 7 = .ok (.iload_n 2, 1) := by decide +kernel
theorem u77_7 {d : Nat} {ls : Lo} {st : List Va} {σ : Sg} {Q : Rs → Sg → Prop} : Wx d 77 7 ls st σ Q ↔ Li (lget ls 2) (fun z => Wx d 77 8 ls (vi z :: st) σ Q) := u_iload_n d77_7
theorem d77_8 : decode (mB 77) 8 = .ok (.iadd, 1) := by decide +kernel
theorem u77_8 {d : Nat} {ls : Lo} {st : List Va} {σ : Sg} {Q : Rs → Sg → Prop} {a b : Int} : Wx d 77 8 ls (vi b :: vi a :: st) σ Q ↔ Wx d 77 9 ls (vi (a + b) :: st) σ Q := u_iadd d77_8
theorem d77_9 : decode (mB 77) 9 = .ok (.bipush 12, 2) := by decide +kernel
theorem u77_9 {d : Nat} {ls : Lo} {st : List Va} {σ : Sg} {Q : Rs → Sg → Prop} : Wx d 77 9 ls st σ Q ↔ Wx d 77 11 ls (vi 12 :: st) σ Q := u_bipush d77_9 (by decide)
theorem d77_11 : decode (mB 77) 11 = .ok (.invokevirtual 114, 3) := by decide +kernel
theorem u77_11 {d : Nat} {ls : Lo} {st : List Va} {σ : Sg} {Q : Rs → Sg → Prop} {g j : Nat} {a1 a2 : Va} : Wx (d + 1) 77 11 ls (a2 :: a1 :: vr g j :: st) σ Q ↔ (isO g j 7 ∧ st.length ≤ 4 ∧ nlg [a2, a1] = true) ∧ Wm d 75 [vr g j, a1, a2] σ (Kc (d + 1) 77 14 ls st Q) := u_inv2 d77_11 rfl rfl rfl
theorem d77_14 : decode (mB 77) 14 = .ok (.ireturn, 1) := by decide +kernel
theorem u77_14 {d : Nat} {ls : Lo} {σ : Sg} {Q : Rs → Sg → Prop} {z : Int} : Wx d 77 14 ls [vi z] σ Q ↔ Q (.inl (some (vi z))) σ := u_iret d77_14 rfl
/-! 78: FiguredBassModel.leading()I -/
theorem d78_0 : decode (mB 78) 0 = .ok (.aload_n 0, 1) := by decide +kernel
theorem u78_0 {d : Nat} {ls : Lo} {st : List Va} {σ : Sg} {Q : Rs → Sg → Prop} : Wx d 78 0 ls st σ Q ↔ Lr (lget ls 0) (fun z => Wx d 78 1 ls (.inr (.inl z) :: st) σ Q) := u_aload_n d78_0
theorem d78_1 : decode (mB 78) 1 = .ok (.iconst 4, 1) := by decide +kernel
theorem u78_1 {d : Nat} {ls : Lo} {st : List Va} {σ : Sg} {Q : Rs → Sg → Prop} : Wx d 78 1 ls st σ Q ↔ Wx d 78 2 ls (vi 4 :: st) σ Q := u_iconst d78_1
theorem d78_2 : decode (mB 78) 2 = .ok (.aload_n 0, 1) := by decide +kernel
theorem u78_2 {d : Nat} {ls : Lo} {st : List Va} {σ : Sg} {Q : Rs → Sg → Prop} : Wx d 78 2 ls st σ Q ↔ Lr (lget ls 0) (fun z => Wx d 78 3 ls (.inr (.inl z) :: st) σ Q) := u_aload_n d78_2
theorem d78_3 : decode (mB 78) 3 = .ok (.getfield 111, 3) := by decide +kernel
theorem u78_3 {d : Nat} {ls : Lo} {st : List Va} {σ : Sg} {Q : Rs → Sg → Prop} {g j : Nat} : Wx d 78 3 ls (vr g j :: st) σ Q ↔ isO g j 7 ∧ Wx d 78 6 ls (fvv σ g j 5 :: st) σ Q := u_get (w := (7, 5)) d78_3 rfl
theorem d78_6 : decode (mB 78) 6 = .ok (.imul, 1) := by decide +kernel
theorem u78_6 {d : Nat} {ls : Lo} {st : List Va} {σ : Sg} {Q : Rs → Sg → Prop} {a b : Int} : Wx d 78 6 ls (vi b :: vi a :: st) σ Q ↔ Wx d 78 7 ls (vi (a * b) :: st) σ Q := u_imul d78_6
theorem d78_7 : decode (mB 78) 7 = .ok (.aload_n 0, 1) := by decide +kernel
theorem u78_7 {d : Nat} {ls : Lo} {st : List Va} {σ : Sg} {Q : Rs → Sg → Prop} : Wx d 78 7 ls st σ Q ↔ Lr (lget ls 0) (fun z => Wx d 78 8 ls (.inr (.inl z) :: st) σ Q) := u_aload_n d78_7
theorem d78_8 : decode (mB 78) 8 = .ok (.getfield 118, 3) := by decide +kernel
theorem u78_8 {d : Nat} {ls : Lo} {st : List Va} {σ : Sg} {Q : Rs → Sg → Prop} {g j : Nat} : Wx d 78 8 ls (vr g j :: st) σ Q ↔ isO g j 7 ∧ Wx d 78 11 ls (fvv σ g j 6 :: st) σ Q := u_get (w := (7, 6)) d78_8 rfl
theorem d78_11 : decode (mB 78) 11 = .ok (.ifCond .eq 7, 3) := by decide +kernel
theorem u78_11 {d : Nat} {ls : Lo} {st : List Va} {σ : Sg} {Q : Rs → Sg → Prop} {a : Int} (h : -2147483648 ≤ a ∧ a ≤ 2147483647) : Wx d 78 11 ls (vi a :: st) σ Q ↔ if a = 0 then Wx d 78 18 ls st σ Q else Wx d 78 14 ls st σ Q := u_ifeq d78_11 (by decide) h
theorem d78_14 : decode (mB 78) 14 = .ok (.iconst 5, 1) := by decide +kernel
theorem u78_14 {d : Nat} {ls : Lo} {st : List Va} {σ : Sg} {Q : Rs → Sg → Prop} : Wx d 78 14 ls st σ Q ↔ Wx d 78 15 ls (vi 5 :: st) σ Q := u_iconst d78_14
theorem d78_15 : decode (mB 78) 15 = .ok (.goto 4, 3) := by decide +kernel
theorem u78_15 {d : Nat} {ls : Lo} {st : List Va} {σ : Sg} {Q : Rs → Sg → Prop} : Wx d 78 15 ls st σ Q ↔ Wx d 78 19 ls st σ Q := u_goto d78_15 (by decide)
theorem d78_18 : decode (mB 78) 18 = .ok (.iconst 0, 1) := by decide +kernel
theorem u78_18 {d : Nat} {ls : Lo} {st : List Va} {σ : Sg} {Q : Rs → Sg → Prop} : Wx d 78 18 ls st σ Q ↔ Wx d 78 19 ls (vi 0 :: st) σ Q := u_iconst d78_18
theorem d78_19 : decode (mB 78) 19 = .ok (.iadd, 1) := by decide +kernel
theorem u78_19 {d : Nat} {ls : Lo} {st : List Va} {σ : Sg} {Q : Rs → Sg → Prop} {a b : Int} : Wx d 78 19 ls (vi b :: vi a :: st) σ Q ↔ Wx d 78 20 ls (vi (a + b) :: st) σ Q := u_iadd d78_19
theorem d78_20 : decode (mB 78) 20 = .ok (.bipush 7, 2) := by decide +kernel
theorem u78_20 {d : Nat} {ls : Lo} {st : List Va} {σ : Sg} {Q : Rs → Sg → Prop} : Wx d 78 20 ls st σ Q ↔ Wx d 78 22 ls (vi 7 :: st) σ Q := u_bipush d78_20 (by decide)
theorem d78_22 : decode (mB 78) 22 = .ok (.invokevirtual 114, 3) := by decide +kernel
theorem u78_22 {d : Nat} {ls : Lo} {st : List Va} {σ : Sg} {Q : Rs → Sg → Prop} {g j : Nat} {a1 a2 : Va} : Wx (d + 1) 78 22 ls (a2 :: a1 :: vr g j :: st) σ Q ↔ (isO g j 7 ∧ st.length ≤ 4 ∧ nlg [a2, a1] = true) ∧ Wm d 75 [vr g j, a1, a2] σ (Kc (d + 1) 78 25 ls st Q) := u_inv2 d78_22 rfl rfl rfl
theorem d78_25 : decode (mB 78) 25 = .ok (.istore_n 1, 1) := by decide +kernel
theorem u78_25 {d : Nat} {ls : Lo} {st : List Va} {σ : Sg} {Q : Rs → Sg → Prop} {z : Int} : Wx d 78 25 ls (vi z :: st) σ Q ↔ Wx d 78 26 (lset ls 1 (vi z)) st σ Q := u_istore_n d78_25 (by decide)
theorem d78_26 : decode (mB 78) 26 = .ok (.aload_n 0, 1) := by decide +kernel
theorem u78_26 {d : Nat} {ls : Lo} {st : List Va} {σ : Sg} {Q : Rs → Sg → Prop} : Wx d 78 26 ls st σ Q ↔ Lr (lget ls 0) (fun z => Wx d 78 27 ls (.inr (.inl z) :: st) σ Q) := u_aload_n d78_26
theorem d78_27 : decode (mB 78) 27 = .ok (.aload_n 0, 1) := by decide +kernel
theorem u78_27 {d : Nat} {ls : Lo} {st : List Va} {σ : Sg} {Q : Rs → Sg → Prop} : Wx d 78 27 ls st σ Q ↔ Lr (lget ls 0) (fun z => Wx d 78 28 ls (.inr (.inl z) :: st) σ Q) := u_aload_n d78_27
theorem d78_28 : decode (mB 78) 28 = .ok (.iload_n 1, 1) := by decide +kernel
theorem u78_28 {d : Nat} {ls : Lo} {st : List Va} {σ : Sg} {Q : Rs → Sg → Prop} : Wx d 78 28 ls st σ Q ↔ Li (lget ls 1) (fun z => Wx d 78 29 ls (vi z :: st) σ Q) := u_iload_n d78_28
theorem d78_29 : decode (mB 78) 29 = .ok (.aload_n 0, 1) := by decide +kernel
theorem u78_29 {d : Nat} {ls : Lo} {st : List Va} {σ : Sg} {Q : Rs → Sg → Prop} : Wx d 78 29 ls st σ Q ↔ Lr (lget ls 0) (fun z => Wx d 78 30 ls (.inr (.inl z) :: st) σ Q) := u_aload_n d78_29
theorem d78_30 : decode (mB 78) 30 = .ok (.iload_n 1, 1) := by decide +kernel
theorem u78_30 {d : Nat} {ls : Lo} {st : List Va} {σ : Sg} {Q : Rs → Sg → Prop} : Wx d 78 30 ls st σ Q ↔ Li (lget ls 1) (fun z => Wx d 78 31 ls (vi z :: st) σ Q) := u_iload_n d78_30
theorem d78_31 : decode (mB 78) 31 = .ok (.invokevirtual 122, 3) := by decide +kernel
theorem u78_31 {d : Nat} {ls : Lo} {st : List Va} {σ : Sg} {Q : Rs → Sg → Prop} {g j : Nat} {a1 : Va} : Wx (d + 1) 78 31 ls (a1 :: vr g j :: st) σ Q ↔ (isO g j 7 ∧ st.length ≤ 4 ∧ nlg [a1] = true) ∧ Wm d 76 [vr g j, a1] σ (Kc (d + 1) 78 34 ls st Q) := u_inv1 d78_31 rfl rfl rfl
theorem d78_34 : decode (mB 78) 34 = .ok (.invokevirtual 126, 3) := by decide +kernel
theorem u78_34 {d : Nat} {ls : Lo} {st : List Va} {σ : Sg} {Q : Rs → Sg → Prop} {g j : Nat} {a1 a2 : Va} : Wx (d + 1) 78 34 ls (a2 :: a1 :: vr g j :: st) σ Q ↔ (isO g j 7 ∧ st.length ≤ 4 ∧ nlg [a2, a1] = true) ∧ Wm d 77 [vr g j, a1, a2] σ (Kc (d + 1) 78 37 ls st Q) := u_inv2 d78_34 rfl rfl rfl
theorem d78_37 : decode (mB 78) 37 = .ok (.bipush 11, 2) := by decide +kernel
theorem u78_37 {d : Nat} {ls : Lo} {st : List Va} {σ : Sg} {Q : Rs → Sg → Prop} : Wx d 78 37 ls st σ Q ↔ Wx d 78 39 ls (vi 11 :: st) σ Q := u_bipush d78_37 (by decide)
theorem d78_39 : decode (mB 78) 39 = .ok (.iadd, 1) := by decide +kernel
theorem u78_39 {d : Nat} {ls : Lo} {st : List Va} {σ : Sg} {Q : Rs → Sg → Prop} {a b : Int} : Wx d 78 39 ls (vi b :: vi a :: st) σ Q ↔ Wx d 78 40 ls (vi (a + b) :: st) σ Q := u_iadd d78_39
theorem d78_40 : decode (mB 78) 40 = .ok (.bipush 12, 2) := by decide +kernel
theorem u78_40 {d : Nat} {ls : Lo} {st : List Va} {σ : Sg} {Q : Rs → Sg → Prop} : Wx d 78 40 ls st σ Q ↔ Wx d 78 42 ls (vi 12 :: st) σ Q := u_bipush d78_40 (by decide)
theorem d78_42 : decode (mB 78) 42 = .ok (.invokevirtual 114, 3) := by decide +kernel
theorem u78_42 {d : Nat} {ls : Lo} {st : List Va} {σ : Sg} {Q : Rs → Sg → Prop} {g j : Nat} {a1 a2 : Va} : Wx (d + 1) 78 42 ls (a2 :: a1 :: vr g j :: st) σ Q ↔ (isO g j 7 ∧ st.length ≤ 4 ∧ nlg [a2, a1] = true) ∧ Wm d 75 [vr g j, a1, a2] σ (Kc (d + 1) 78 45 ls st Q) := u_inv2 d78_42 rfl rfl rfl
theorem d78_45 : decode (mB 78) 45 = .ok (.ireturn, 1) := by decide +kernel
theorem u78_45 {d : Nat} {ls : Lo} {σ : Sg} {Q : Rs → Sg → Prop} {z : Int} : Wx d 78 45 ls [vi z] σ Q ↔ Q (.inl (some (vi z))) σ := u_iret d78_45 rfl
/-! 79: FiguredBassModel.key(IZ)V -/
theorem d79_0 : decode (mB 79) 0 = .ok (.aload_n 0, 1) := by decide +kernel
theorem u79_0 {d : Nat} {ls : Lo} {st : List Va} {σ : Sg} {Q : Rs → Sg → Prop} : Wx d 79 0 ls st σ Q ↔ Lr (lget ls 0) (fun z => Wx d 79 1 ls (.inr (.inl z) :: st) σ Q) := u_aload_n d79_0
theorem d79_1 : decode (mB 79) 1 = .ok (.iload_n 1, 1) := by decide +kernel
theorem u79_1 {d : Nat} {ls : Lo} {st : List Va} {σ : Sg} {Q : Rs → Sg → Prop} : Wx d 79 1 ls st σ Q ↔ Li (lget ls 1) (fun z => Wx d 79 2 ls (vi z :: st) σ Q) := u_iload_n d79_1
theorem d79_2 : decode (mB 79) 2 = .ok (.bipush (-7), 2) := by decide +kernel
theorem u79_2 {d : Nat} {ls : Lo} {st : List Va} {σ : Sg} {Q : Rs → Sg → Prop} : Wx d 79 2 ls st σ Q ↔ Wx d 79 4 ls (vi (-7) :: st) σ Q := u_bipush d79_2 (by decide)
theorem d79_4 : decode (mB 79) 4 = .ok (.if_icmp .lt 9, 3) := by decide +kernel
theorem u79_4 {d : Nat} {ls : Lo} {st : List Va} {σ : Sg} {Q : Rs → Sg → Prop} {a b : Int} (h : -2147483648 ≤ a ∧ a ≤ 2147483647) (h2 : -2147483648 ≤ b ∧ b ≤ 2147483647) : Wx d 79 4 ls (vi b :: vi a :: st) σ Q ↔ if a < b then Wx d 79 13 ls st σ Q else Wx d 79 7 ls st σ Q := u_iclt d79_4 (by decide) h h2
theorem d79_7 : decode (mB 79) 7 = .ok (.iload_n 1, 1) := by decide +kernel
theorem u79_7 {d : Nat} {ls : Lo} {st : List Va} {σ : Sg} {Q : Rs → Sg → Prop} : Wx d 79 7 ls st σ Q ↔ Li (lget ls 1) (fun z => Wx d 79 8 ls (vi z :: st) σ Q) := u_iload_n d79_7
theorem d79_8 : decode (mB 79) 8 = .ok (.bipush 7, 2) := by decide +kernel
theorem u79_8 {d : Nat} {ls : Lo} {st : List Va} {σ : Sg} {Q : Rs → Sg → Prop} : Wx d 79 8 ls st σ Q ↔ Wx d 79 10 ls (vi 7 :: st) σ Q := u_bipush d79_8 (by decide)
theorem d79_10 : decode (mB 79) 10 = .ok (.if_icmp .le 7, 3) := by decide +kernel
theorem u79_10 {d : Nat} {ls : Lo} {st : List Va} {σ : Sg} {Q : Rs → Sg → Prop} {a b : Int} (h : -2147483648 ≤ a ∧ a ≤ 2147483647) (h2 : -2147483648 ≤ b ∧ b ≤ 2147483647) : Wx d 79 10 ls (vi b :: vi a :: st) σ Q ↔ if a ≤ b then Wx d 79 17 ls st σ Q else Wx d 79 13 ls st σ Q := u_icle d79_10 (by decide) h h2
theorem d79_13 : decode (mB 79) 13 = .ok (.iconst 1, 1) := by decide +kernel
theorem u79_13 {d : Nat} {ls : Lo} {st : List Va} {σ : Sg} {Q : Rs → Sg → Prop} : Wx d 79 13 ls st σ Q ↔ Wx d 79 14 ls (vi 1 :: st) σ Q := u_iconst d79_13
theorem d79_14 : decode (mB 79) 14 = .ok (.goto 4, 3) := by decide +kernel
theorem u79_14 {d : Nat} {ls : Lo} {st : List Va} {σ : Sg} {Q : Rs → Sg → Prop} : Wx d 79 14 ls st σ Q ↔ Wx d 79 18 ls st σ Q := u_goto d79_14 (by decide)
theorem d79_17 : decode (mB 79) 17 = .ok (.iconst 0, 1) := by decide +kernel
theorem u79_17 {d : Nat} {ls : Lo} {st : List Va} {σ : Sg} {Q : Rs → Sg → Prop} : Wx d 79 17 ls st σ Q ↔ Wx d 79 18 ls (vi 0 :: st) σ Q := u_iconst d79_17
theorem d79_18 : decode (mB 79) 18 = .ok (.putfield 108, 3) := by decide +kernel
theorem u79_18 {d : Nat} {ls : Lo} {st : List Va} {σ : Sg} {Q : Rs → Sg → Prop} {z : Int} {g j : Nat} : Wx d 79 18 ls (vi z :: vr g j :: st) σ Q ↔ (isO g j 7 ∧ rf g j 0 = none) ∧ Wx d 79 21 ls st (up σ g j 0 z) Q := u_put (w := (7, 0)) d79_18 rfl rfl rfl
theorem d79_21 : decode (mB 79) 21 = .ok (.aload_n 0, 1) := by decide +kernel
theorem u79_21 {d : Nat} {ls : Lo} {st : List Va} {σ : Sg} {Q : Rs → Sg → Prop} : Wx d 79 21 ls st σ Q ↔ Lr (lget ls 0) (fun z => Wx d 79 22 ls (.inr (.inl z) :: st) σ Q) := u_aload_n d79_21
theorem d79_22 : decode (mB 79) 22 = .ok (.getfield 108, 3) := by decide +kernel
theorem u79_22 {d : Nat} {ls : Lo} {st : List Va} {σ : Sg} {Q : Rs → Sg → Prop} {g j : Nat} : Wx d 79 22 ls (vr g j :: st) σ Q ↔ isO g j 7 ∧ Wx d 79 25 ls (fvv σ g j 0 :: st) σ Q := u_get (w := (7, 0)) d79_22 rfl
theorem d79_25 : decode (mB 79) 25 = .ok (.ifCond .ne 18, 3) := by decide +kernel
theorem u79_25 {d : Nat} {ls : Lo} {st : List Va} {σ : Sg} {Q : Rs → Sg → Prop} {a : Int} (h : -2147483648 ≤ a ∧ a ≤ 2147483647) : Wx d 79 25 ls (vi a :: st) σ Q ↔ if ¬ a = 0 then Wx d 79 43 ls st σ Q else Wx d 79 28 ls st σ Q := u_ifne d79_25 (by decide) h
theorem d79_28 : decode (mB 79) 28 = .ok (.aload_n 0, 1) := by decide +kernel
theorem u79_28 {d : Nat} {ls : Lo} {st : List Va} {σ : Sg} {Q : Rs → Sg → Prop} : Wx d 79 28 ls st σ Q ↔ Lr (lget ls 0) (fun z => Wx d 79 29 ls (.inr (.inl z) :: st) σ Q) := u_aload_n d79_28
theorem d79_29 : decode (mB 79) 29 = .ok (.iload_n 1, 1) := by decide +kernel
theorem u79_29 {d : Nat} {ls : Lo} {st : List Va} {σ : Sg} {Q : Rs → Sg → Prop} : Wx d 79 29 ls st σ Q ↔ Li (lget ls 1) (fun z => Wx d 79 30 ls (vi z :: st) σ Q) := u_iload_n d79_29
theorem d79_30 : decode (mB 79) 30 = .ok (.putfield 111, 3) := by decide +kernel
theorem u79_30 {d : Nat} {ls : Lo} {st : List Va} {σ : Sg} {Q : Rs → Sg → Prop} {z : Int} {g j : Nat} : Wx d 79 30 ls (vi z :: vr g j :: st) σ Q ↔ (isO g j 7 ∧ rf g j 5 = none) ∧ Wx d 79 33 ls st (up σ g j 5 z) Q := u_put (w := (7, 5)) d79_30 rfl rfl rfl
theorem d79_33 : decode (mB 79) 33 = .ok (.aload_n 0, 1) := by decide +kernel
theorem u79_33 {d : Nat} {ls : Lo} {st : List Va} {σ : Sg} {Q : Rs → Sg → Prop} : Wx d 79 33 ls st σ Q ↔ Lr (lget ls 0) (fun z => Wx d 79 34 ls (.inr (.inl z) :: st) σ Q) := u_aload_n d79_33
theorem d79_34 : decode (mB 79) 34 = .ok (.iload_n 2, 1) := by decide +kernel
theorem u79_34 {d : Nat} {ls : Lo} {st : List Va} {σ : Sg} {Q : Rs → Sg → Prop} : Wx d 79 34 ls st σ Q ↔ Li (lget ls 2) (fun z => Wx d 79 35 ls (vi z :: st) σ Q) := u_iload_n d79_34
theorem d79_35 : decode (mB 79) 35 = .ok (.putfield 118, 3) := by decide +kernel
theorem u79_35 {d : Nat} {ls : Lo} {st : List Va} {σ : Sg} {Q : Rs → Sg → Prop} {z : Int} {g j : Nat} : Wx d 79 35 ls (vi z :: vr g j :: st) σ Q ↔ (isO g j 7 ∧ rf g j 6 = none ∧ (z = 0 ∨ z = 1)) ∧ Wx d 79 38 ls st (up σ g j 6 z) Q := u_putz (w := (7, 6)) d79_35 rfl rfl rfl
theorem d79_38 : decode (mB 79) 38 = .ok (.aload_n 0, 1) := by decide +kernel
theorem u79_38 {d : Nat} {ls : Lo} {st : List Va} {σ : Sg} {Q : Rs → Sg → Prop} : Wx d 79 38 ls st σ Q ↔ Lr (lget ls 0) (fun z => Wx d 79 39 ls (.inr (.inl z) :: st) σ Q) := u_aload_n d79_38
theorem d79_39 : decode (mB 79) 39 = .ok (.iconst 0, 1) := by decide +kernel
theorem u79_39 {d : Nat} {ls : Lo} {st : List Va} {σ : Sg} {Q : Rs → Sg → Prop} : Wx d 79 39 ls st σ Q ↔ Wx d 79 40 ls (vi 0 :: st) σ Q := u_iconst d79_39
theorem d79_40 : decode (mB 79) 40 = .ok (.putfield 129, 3) := by decide +kernel
theorem u79_40 {d : Nat} {ls : Lo} {st : List Va} {σ : Sg} {Q : Rs → Sg → Prop} {z : Int} {g j : Nat} : Wx d 79 40 ls (vi z :: vr g j :: st) σ Q ↔ (isO g j 7 ∧ rf g j 32 = none ∧ (z = 0 ∨ z = 1)) ∧ Wx d 79 43 ls st (up σ g j 32 z) Q := u_putz (w := (7, 32)) d79_40 rfl rfl rfl
theorem d79_43 : decode (mB 79) 43 = .ok (.return_, 1) := by decide +kernel
theorem u79_43 {d : Nat} {ls : Lo} {σ : Sg} {Q : Rs → Sg → Prop} : Wx d 79 43 ls [] σ Q ↔ Q (.inl none) σ := u_vret d79_43 rfl
/-! 80: FiguredBassModel.length(I)V -/
theorem d80_0 : decode (mB 80) 0 = .ok (.aload_n 0, 1) := by decide +kernel
theorem u80_0 {d : Nat} {ls : Lo} {st : List Va} {σ : Sg} {Q : Rs → Sg → Prop} : Wx d 80 0 ls st σ Q ↔ Lr (lget ls 0) (fun z => Wx d 80 1 ls (.inr (.inl z) :: st) σ Q) := u_aload_n d80_0
theorem d80_1 : decode (mB 80) 1 = .ok (.iload_n 1, 1) := by decide +kernel
theorem u80_1 {d : Nat} {ls : Lo} {st : List Va} {σ : Sg} {Q : Rs → Sg → Prop} : Wx d 80 1 ls st σ Q ↔ Li (lget ls 1) (fun z => Wx d 80 2 ls (vi z :: st) σ Q) := u_iload_n d80_1
theorem d80_2 : decode (mB 80) 2 = .ok (.iconst 1, 1) := by decide +kernel
theorem u80_2 {d : Nat} {ls : Lo} {st : List Va} {σ : Sg} {Q : Rs → Sg → Prop} : Wx d 80 2 ls st σ Q ↔ Wx d 80 3 ls (vi 1 :: st) σ Q := u_iconst d80_2
theorem d80_3 : decode (mB 80) 3 = .ok (.if_icmp .lt 9, 3) := by decide +kernel
theorem u80_3 {d : Nat} {ls : Lo} {st : List Va} {σ : Sg} {Q : Rs → Sg → Prop} {a b : Int} (h : -2147483648 ≤ a ∧ a ≤ 2147483647) (h2 : -2147483648 ≤ b ∧ b ≤ 2147483647) : Wx d 80 3 ls (vi b :: vi a :: st) σ Q ↔ if a < b then Wx d 80 12 ls st σ Q else Wx d 80 6 ls st σ Q := u_iclt d80_3 (by decide) h h2
theorem d80_6 : decode (mB 80) 6 = .ok (.iload_n 1, 1) := by decide +kernel
theorem u80_6 {d : Nat} {ls : Lo} {st : List Va} {σ : Sg} {Q : Rs → Sg → Prop} : Wx d 80 6 ls st σ Q ↔ Li (lget ls 1) (fun z => Wx d 80 7 ls (vi z :: st) σ Q) := u_iload_n d80_6
theorem d80_7 : decode (mB 80) 7 = .ok (.bipush 8, 2) := by decide +kernel
theorem u80_7 {d : Nat} {ls : Lo} {st : List Va} {σ : Sg} {Q : Rs → Sg → Prop} : Wx d 80 7 ls st σ Q ↔ Wx d 80 9 ls (vi 8 :: st) σ Q := u_bipush d80_7 (by decide)
theorem d80_9 : decode (mB 80) 9 = .ok (.if_icmp .le 7, 3) := by decide +kernel
theorem u80_9 {d : Nat} {ls : Lo} {st : List Va} {σ : Sg} {Q : Rs → Sg → Prop} {a b : Int} (h : -2147483648 ≤ a ∧ a ≤ 2147483647) (h2 : -2147483648 ≤ b ∧ b ≤ 2147483647) : Wx d 80 9 ls (vi b :: vi a :: st) σ Q ↔ if a ≤ b then Wx d 80 16 ls st σ Q else Wx d 80 12 ls st σ Q := u_icle d80_9 (by decide) h h2
theorem d80_12 : decode (mB 80) 12 = .ok (.iconst 1, 1) := by decide +kernel
theorem u80_12 {d : Nat} {ls : Lo} {st : List Va} {σ : Sg} {Q : Rs → Sg → Prop} : Wx d 80 12 ls st σ Q ↔ Wx d 80 13 ls (vi 1 :: st) σ Q := u_iconst d80_12
theorem d80_13 : decode (mB 80) 13 = .ok (.goto 4, 3) := by decide +kernel
theorem u80_13 {d : Nat} {ls : Lo} {st : List Va} {σ : Sg} {Q : Rs → Sg → Prop} : Wx d 80 13 ls st σ Q ↔ Wx d 80 17 ls st σ Q := u_goto d80_13 (by decide)
theorem d80_16 : decode (mB 80) 16 = .ok (.iconst 0, 1) := by decide +kernel
theorem u80_16 {d : Nat} {ls : Lo} {st : List Va} {σ : Sg} {Q : Rs → Sg → Prop} : Wx d 80 16 ls st σ Q ↔ Wx d 80 17 ls (vi 0 :: st) σ Q := u_iconst d80_16
theorem d80_17 : decode (mB 80) 17 = .ok (.putfield 108, 3) := by decide +kernel
theorem u80_17 {d : Nat} {ls : Lo} {st : List Va} {σ : Sg} {Q : Rs → Sg → Prop} {z : Int} {g j : Nat} : Wx d 80 17 ls (vi z :: vr g j :: st) σ Q ↔ (isO g j 7 ∧ rf g j 0 = none) ∧ Wx d 80 20 ls st (up σ g j 0 z) Q := u_put (w := (7, 0)) d80_17 rfl rfl rfl
theorem d80_20 : decode (mB 80) 20 = .ok (.aload_n 0, 1) := by decide +kernel
theorem u80_20 {d : Nat} {ls : Lo} {st : List Va} {σ : Sg} {Q : Rs → Sg → Prop} : Wx d 80 20 ls st σ Q ↔ Lr (lget ls 0) (fun z => Wx d 80 21 ls (.inr (.inl z) :: st) σ Q) := u_aload_n d80_20
theorem d80_21 : decode (mB 80) 21 = .ok (.getfield 108, 3) := by decide +kernel
theorem u80_21 {d : Nat} {ls : Lo} {st : List Va} {σ : Sg} {Q : Rs → Sg → Prop} {g j : Nat} : Wx d 80 21 ls (vr g j :: st) σ Q ↔ isO g j 7 ∧ Wx d 80 24 ls (fvv σ g j 0 :: st) σ Q := u_get (w := (7, 0)) d80_21 rfl
theorem d80_24 : decode (mB 80) 24 = .ok (.ifCond .ne 13, 3) := by decide +kernel
theorem u80_24 {d : Nat} {ls : Lo} {st : List Va} {σ : Sg} {Q : Rs → Sg → Prop} {a : Int} (h : -2147483648 ≤ a ∧ a ≤ 2147483647) : Wx d 80 24 ls (vi a :: st) σ Q ↔ if ¬ a = 0 then Wx d 80 37 ls st σ Q else Wx d 80 27 ls st σ Q := u_ifne d80_24 (by decide) h
theorem d80_27 : decode (mB 80) 27 = .ok (.aload_n 0, 1) := by decide +kernel
theorem u80_27 {d : Nat} {ls : Lo} {st : List Va} {σ : Sg} {Q : Rs → Sg → Prop} : Wx d 80 27 ls st σ Q ↔ Lr (lget ls 0) (fun z => Wx d 80 28 ls (.inr (.inl z) :: st) σ Q) := u_aload_n d80_27
theorem d80_28 : decode (mB 80) 28 = .ok (.iload_n 1, 1) := by decide +kernel
theorem u80_28 {d : Nat} {ls : Lo} {st : List Va} {σ : Sg} {Q : Rs → Sg → Prop} : Wx d 80 28 ls st σ Q ↔ Li (lget ls 1) (fun z => Wx d 80 29 ls (vi z :: st) σ Q) := u_iload_n d80_28
theorem d80_29 : decode (mB 80) 29 = .ok (.putfield 22, 3) := by decide +kernel
theorem u80_29 {d : Nat} {ls : Lo} {st : List Va} {σ : Sg} {Q : Rs → Sg → Prop} {z : Int} {g j : Nat} : Wx d 80 29 ls (vi z :: vr g j :: st) σ Q ↔ (isO g j 7 ∧ rf g j 7 = none) ∧ Wx d 80 32 ls st (up σ g j 7 z) Q := u_put (w := (7, 7)) d80_29 rfl rfl rfl
theorem d80_32 : decode (mB 80) 32 = .ok (.aload_n 0, 1) := by decide +kernel
theorem u80_32 {d : Nat} {ls : Lo} {st : List Va} {σ : Sg} {Q : Rs → Sg → Prop} : Wx d 80 32 ls st σ Q ↔ Lr (lget ls 0) (fun z => Wx d 80 33 ls (.inr (.inl z) :: st) σ Q) := u_aload_n d80_32
theorem d80_33 : decode (mB 80) 33 = .ok (.iconst 0, 1) := by decide +kernel
theorem u80_33 {d : Nat} {ls : Lo} {st : List Va} {σ : Sg} {Q : Rs → Sg → Prop} : Wx d 80 33 ls st σ Q ↔ Wx d 80 34 ls (vi 0 :: st) σ Q := u_iconst d80_33
theorem d80_34 : decode (mB 80) 34 = .ok (.putfield 129, 3) := by decide +kernel
theorem u80_34 {d : Nat} {ls : Lo} {st : List Va} {σ : Sg} {Q : Rs → Sg → Prop} {z : Int} {g j : Nat} : Wx d 80 34 ls (vi z :: vr g j :: st) σ Q ↔ (isO g j 7 ∧ rf g j 32 = none ∧ (z = 0 ∨ z = 1)) ∧ Wx d 80 37 ls st (up σ g j 32 z) Q := u_putz (w := (7, 32)) d80_34 rfl rfl rfl
theorem d80_37 : decode (mB 80) 37 = .ok (.return_, 1) := by decide +kernel
theorem u80_37 {d : Nat} {ls : Lo} {σ : Sg} {Q : Rs → Sg → Prop} : Wx d 80 37 ls [] σ Q ↔ Q (.inl none) σ := u_vret d80_37 rfl
/-! 81: FiguredBassModel.noChord(I)Z -/
theorem d81_0 : decode (mB 81) 0 = .ok (.iload_n 1, 1) := by decide +kernel
theorem u81_0 {d : Nat} {ls : Lo} {st : List Va} {σ : Sg} {Q : Rs → Sg → Prop} : Wx d 81 0 ls st σ Q ↔ Li (lget ls 1) (fun z => Wx d 81 1 ls (vi z :: st) σ Q) := u_iload_n d81_0
theorem d81_1 : decode (mB 81) 1 = .ok (.ifCond .lt 9, 3) := by decide +kernel
theorem u81_1 {d : Nat} {ls : Lo} {st : List Va} {σ : Sg} {Q : Rs → Sg → Prop} {a : Int} (h : -2147483648 ≤ a ∧ a ≤ 2147483647) : Wx d 81 1 ls (vi a :: st) σ Q ↔ if a < 0 then Wx d 81 10 ls st σ Q else Wx d 81 4 ls st σ Q := u_iflt d81_1 (by decide) h
theorem d81_4 : decode (mB 81) 4 = .ok (.iload_n 1, 1) := by decide +kernel
theorem u81_4 {d : Nat} {ls : Lo} {st : List Va} {σ : Sg} {Q : Rs → Sg → Prop} : Wx d 81 4 ls st σ Q ↔ Li (lget ls 1) (fun z => Wx d 81 5 ls (vi z :: st) σ Q) := u_iload_n d81_4
theorem d81_5 : decode (mB 81) 5 = .ok (.bipush 7, 2) := by decide +kernel
theorem u81_5 {d : Nat} {ls : Lo} {st : List Va} {σ : Sg} {Q : Rs → Sg → Prop} : Wx d 81 5 ls st σ Q ↔ Wx d 81 7 ls (vi 7 :: st) σ Q := u_bipush d81_5 (by decide)
theorem d81_7 : decode (mB 81) 7 = .ok (.if_icmp .le 7, 3) := by decide +kernel
theorem u81_7 {d : Nat} {ls : Lo} {st : List Va} {σ : Sg} {Q : Rs → Sg → Prop} {a b : Int} (h : -2147483648 ≤ a ∧ a ≤ 2147483647) (h2 : -2147483648 ≤ b ∧ b ≤ 2147483647) : Wx d 81 7 ls (vi b :: vi a :: st) σ Q ↔ if a ≤ b then Wx d 81 14 ls st σ Q else Wx d 81 10 ls st σ Q := u_icle d81_7 (by decide) h h2
theorem d81_10 : decode (mB 81) 10 = .ok (.iconst 1, 1) := by decide +kernel
theorem u81_10 {d : Nat} {ls : Lo} {st : List Va} {σ : Sg} {Q : Rs → Sg → Prop} : Wx d 81 10 ls st σ Q ↔ Wx d 81 11 ls (vi 1 :: st) σ Q := u_iconst d81_10
theorem d81_11 : decode (mB 81) 11 = .ok (.goto 4, 3) := by decide +kernel
theorem u81_11 {d : Nat} {ls : Lo} {st : List Va} {σ : Sg} {Q : Rs → Sg → Prop} : Wx d 81 11 ls st σ Q ↔ Wx d 81 15 ls st σ Q := u_goto d81_11 (by decide)
theorem d81_14 : decode (mB 81) 14 = .ok (.iconst 0, 1) := by decide +kernel
theorem u81_14 {d : Nat} {ls : Lo} {st : List Va} {σ : Sg} {Q : Rs → Sg → Prop} : Wx d 81 14 ls st σ Q ↔ Wx d 81 15 ls (vi 0 :: st) σ Q := u_iconst d81_14
theorem d81_15 : decode (mB 81) 15 = .ok (.ireturn, 1) := by decide +kernel
theorem u81_15 {d : Nat} {ls : Lo} {σ : Sg} {Q : Rs → Sg → Prop} {z : Int} (h : z = 0 ∨ z = 1) : Wx d 81 15 ls [vi z] σ Q ↔ Q (.inl (some (vi z))) σ := u_zret d81_15 rfl h
/-! 82: FiguredBassModel.bass(IIII)I -/
theorem d82_0 : decode (mB 82) 0 = .ok (.aload_n 0, 1) := by decide +kernel
theorem u82_0 {d : Nat} {ls : Lo} {st : List Va} {σ : Sg} {Q : Rs → Sg → Prop} : Wx d 82 0 ls st σ Q ↔ Lr (lget ls 0) (fun z => Wx d 82 1 ls (.inr (.inl z) :: st) σ Q) := u_aload_n d82_0
theorem d82_1 : decode (mB 82) 1 = .ok (.iload_n 1, 1) := by decide +kernel
theorem u82_1 {d : Nat} {ls : Lo} {st : List Va} {σ : Sg} {Q : Rs → Sg → Prop} : Wx d 82 1 ls st σ Q ↔ Li (lget ls 1) (fun z => Wx d 82 2 ls (vi z :: st) σ Q) := u_iload_n d82_1
theorem d82_2 : decode (mB 82) 2 = .ok (.invokevirtual 132, 3) := by decide +kernel
theorem u82_2 {d : Nat} {ls : Lo} {st : List Va} {σ : Sg} {Q : Rs → Sg → Prop} {g j : Nat} {a1 : Va} : Wx (d + 1) 82 2 ls (a1 :: vr g j :: st) σ Q ↔ (isO g j 7 ∧ st.length ≤ 4 ∧ nlg [a1] = true) ∧ Wm d 81 [vr g j, a1] σ (Kc (d + 1) 82 5 ls st Q) := u_inv1 d82_2 rfl rfl rfl
theorem d82_5 : decode (mB 82) 5 = .ok (.ifCond .ne 35, 3) := by decide +kernel
theorem u82_5 {d : Nat} {ls : Lo} {st : List Va} {σ : Sg} {Q : Rs → Sg → Prop} {a : Int} (h : -2147483648 ≤ a ∧ a ≤ 2147483647) : Wx d 82 5 ls (vi a :: st) σ Q ↔ if ¬ a = 0 then Wx d 82 40 ls st σ Q else Wx d 82 8 ls st σ Q := u_ifne d82_5 (by decide) h
theorem d82_8 : decode (mB 82) 8 = .ok (.iload_n 2, 1) := by decide +kernel
theorem u82_8 {d : Nat} {ls : Lo} {st : List Va} {σ : Sg} {Q : Rs → Sg → Prop} : Wx d 82 8 ls st σ Q ↔ Li (lget ls 2) (fun z => Wx d 82 9 ls (vi z :: st) σ Q) := u_iload_n d82_8
theorem d82_9 : decode (mB 82) 9 = .ok (.ifCond .lt 31, 3) := by decide +kernel
theorem u82_9 {d : Nat} {ls : Lo} {st : List Va} {σ : Sg} {Q : Rs → Sg → Prop} {a : Int} (h : -2147483648 ≤ a ∧ a ≤ 2147483647) : Wx d 82 9 ls (vi a :: st) σ Q ↔ if a < 0 then Wx d 82 40 ls st σ Q else Wx d 82 12 ls st σ Q := u_iflt d82_9 (by decide) h
theorem d82_12 : decode (mB 82) 12 = .ok (.iload_n 2, 1) := by decide +kernel
theorem u82_12 {d : Nat} {ls : Lo} {st : List Va} {σ : Sg} {Q : Rs → Sg → Prop} : Wx d 82 12 ls st σ Q ↔ Li (lget ls 2) (fun z => Wx d 82 13 ls (vi z :: st) σ Q) := u_iload_n d82_12
theorem d82_13 : decode (mB 82) 13 = .ok (.bipush 6, 2) := by decide +kernel
theorem u82_13 {d : Nat} {ls : Lo} {st : List Va} {σ : Sg} {Q : Rs → Sg → Prop} : Wx d 82 13 ls st σ Q ↔ Wx d 82 15 ls (vi 6 :: st) σ Q := u_bipush d82_13 (by decide)
theorem d82_15 : decode (mB 82) 15 = .ok (.if_icmp .gt 25, 3) := by decide +kernel
theorem u82_15 {d : Nat} {ls : Lo} {st : List Va} {σ : Sg} {Q : Rs → Sg → Prop} {a b : Int} (h : -2147483648 ≤ a ∧ a ≤ 2147483647) (h2 : -2147483648 ≤ b ∧ b ≤ 2147483647) : Wx d 82 15 ls (vi b :: vi a :: st) σ Q ↔ if b < a then Wx d 82 40 ls st σ Q else Wx d 82 18 ls st σ Q := u_icgt d82_15 (by decide) h h2
theorem d82_18 : decode (mB 82) 18 = .ok (.iload 4, 2) := by decide +kernel
theorem u82_18 {d : Nat} {ls : Lo} {st : List Va} {σ : Sg} {Q : Rs → Sg → Prop} : Wx d 82 18 ls st σ Q ↔ Li (lget ls 4) (fun z => Wx d 82 20 ls (vi z :: st) σ Q) := u_iload d82_18
theorem d82_20 : decode (mB 82) 20 = .ok (.iconst (-1), 1) := by decide +kernel
theorem u82_20 {d : Nat} {ls : Lo} {st : List Va} {σ : Sg} {Q : Rs → Sg → Prop} : Wx d 82 20 ls st σ Q ↔ Wx d 82 21 ls (vi (-1) :: st) σ Q := u_iconst d82_20
theorem d82_21 : decode (mB 82) 21 = .ok (.if_icmp .lt 19, 3) := by decide +kernel
theorem u82_21 {d : Nat} {ls : Lo} {st : List Va} {σ : Sg} {Q : Rs → Sg → Prop} {a b : Int} (h : -2147483648 ≤ a ∧ a ≤ 2147483647) (h2 : -2147483648 ≤ b ∧ b ≤ 2147483647) : Wx d 82 21 ls (vi b :: vi a :: st) σ Q ↔ if a < b then Wx d 82 40 ls st σ Q else Wx d 82 24 ls st σ Q := u_iclt d82_21 (by decide) h h2
theorem d82_24 : decode (mB 82) 24 = .ok (.iload 4, 2) := by decide +kernel
theorem u82_24 {d : Nat} {ls : Lo} {st : List Va} {σ : Sg} {Q : Rs → Sg → Prop} : Wx d 82 24 ls st σ Q ↔ Li (lget ls 4) (fun z => Wx d 82 26 ls (vi z :: st) σ Q) := u_iload d82_24
theorem d82_26 : decode (mB 82) 26 = .ok (.iconst 1, 1) := by decide +kernel
theorem u82_26 {d : Nat} {ls : Lo} {st : List Va} {σ : Sg} {Q : Rs → Sg → Prop} : Wx d 82 26 ls st σ Q ↔ Wx d 82 27 ls (vi 1 :: st) σ Q := u_iconst d82_26
theorem d82_27 : decode (mB 82) 27 = .ok (.if_icmp .gt 13, 3) := by decide +kernel
theorem u82_27 {d : Nat} {ls : Lo} {st : List Va} {σ : Sg} {Q : Rs → Sg → Prop} {a b : Int} (h : -2147483648 ≤ a ∧ a ≤ 2147483647) (h2 : -2147483648 ≤ b ∧ b ≤ 2147483647) : Wx d 82 27 ls (vi b :: vi a :: st) σ Q ↔ if b < a then Wx d 82 40 ls st σ Q else Wx d 82 30 ls st σ Q := u_icgt d82_27 (by decide) h h2
theorem d82_30 : decode (mB 82) 30 = .ok (.iload_n 3, 1) := by decide +kernel
theorem u82_30 {d : Nat} {ls : Lo} {st : List Va} {σ : Sg} {Q : Rs → Sg → Prop} : Wx d 82 30 ls st σ Q ↔ Li (lget ls 3) (fun z => Wx d 82 31 ls (vi z :: st) σ Q) := u_iload_n d82_30
theorem d82_31 : decode (mB 82) 31 = .ok (.ifCond .lt 9, 3) := by decide +kernel
theorem u82_31 {d : Nat} {ls : Lo} {st : List Va} {σ : Sg} {Q : Rs → Sg → Prop} {a : Int} (h : -2147483648 ≤ a ∧ a ≤ 2147483647) : Wx d 82 31 ls (vi a :: st) σ Q ↔ if a < 0 then Wx d 82 40 ls st σ Q else Wx d 82 34 ls st σ Q := u_iflt d82_31 (by decide) h
theorem d82_34 : decode (mB 82) 34 = .ok (.iload_n 3, 1) := by decide +kernel
theorem u82_34 {d : Nat} {ls : Lo} {st : List Va} {σ : Sg} {Q : Rs → Sg → Prop} : Wx d 82 34 ls st σ Q ↔ Li (lget ls 3) (fun z => Wx d 82 35 ls (vi z :: st) σ Q) := u_iload_n d82_34
theorem d82_35 : decode (mB 82) 35 = .ok (.bipush 9, 2) := by decide +kernel
theorem u82_35 {d : Nat} {ls : Lo} {st : List Va} {σ : Sg} {Q : Rs → Sg → Prop} : Wx d 82 35 ls st σ Q ↔ Wx d 82 37 ls (vi 9 :: st) σ Q := u_bipush d82_35 (by decide)
theorem d82_37 : decode (mB 82) 37 = .ok (.if_icmp .le 7, 3) := by decide +kernel
theorem u82_37 {d : Nat} {ls : Lo} {st : List Va} {σ : Sg} {Q : Rs → Sg → Prop} {a b : Int} (h : -2147483648 ≤ a ∧ a ≤ 2147483647) (h2 : -2147483648 ≤ b ∧ b ≤ 2147483647) : Wx d 82 37 ls (vi b :: vi a :: st) σ Q ↔ if a ≤ b then Wx d 82 44 ls st σ Q else Wx d 82 40 ls st σ Q := u_icle d82_37 (by decide) h h2
theorem d82_40 : decode (mB 82) 40 = .ok (.iconst 1, 1) := by decide +kernel
theorem u82_40 {d : Nat} {ls : Lo} {st : List Va} {σ : Sg} {Q : Rs → Sg → Prop} : Wx d 82 40 ls st σ Q ↔ Wx d 82 41 ls (vi 1 :: st) σ Q := u_iconst d82_40
theorem d82_41 : decode (mB 82) 41 = .ok (.goto 4, 3) := by decide +kernel
theorem u82_41 {d : Nat} {ls : Lo} {st : List Va} {σ : Sg} {Q : Rs → Sg → Prop} : Wx d 82 41 ls st σ Q ↔ Wx d 82 45 ls st σ Q := u_goto d82_41 (by decide)
theorem d82_44 : decode (mB 82) 44 = .ok (.iconst 0, 1) := by decide +kernel
theorem u82_44 {d : Nat} {ls : Lo} {st : List Va} {σ : Sg} {Q : Rs → Sg → Prop} : Wx d 82 44 ls st σ Q ↔ Wx d 82 45 ls (vi 0 :: st) σ Q := u_iconst d82_44
theorem d82_45 : decode (mB 82) 45 = .ok (.istore 5, 2) := by decide +kernel
theorem u82_45 {d : Nat} {ls : Lo} {st : List Va} {σ : Sg} {Q : Rs → Sg → Prop} {z : Int} : Wx d 82 45 ls (vi z :: st) σ Q ↔ Wx d 82 47 (lset ls 5 (vi z)) st σ Q := u_istore d82_45 (by decide)
theorem d82_47 : decode (mB 82) 47 = .ok (.iload 5, 2) := by decide +kernel
theorem u82_47 {d : Nat} {ls : Lo} {st : List Va} {σ : Sg} {Q : Rs → Sg → Prop} : Wx d 82 47 ls st σ Q ↔ Li (lget ls 5) (fun z => Wx d 82 49 ls (vi z :: st) σ Q) := u_iload d82_47
theorem d82_49 : decode (mB 82) 49 = .ok (.ifCond .eq 7, 3) := by decide +kernel
theorem u82_49 {d : Nat} {ls : Lo} {st : List Va} {σ : Sg} {Q : Rs → Sg → Prop} {a : Int} (h : -2147483648 ≤ a ∧ a ≤ 2147483647) : Wx d 82 49 ls (vi a :: st) σ Q ↔ if a = 0 then Wx d 82 56 ls st σ Q else Wx d 82 52 ls st σ Q := u_ifeq d82_49 (by decide) h
theorem d82_52 : decode (mB 82) 52 = .ok (.iconst 0, 1) := by decide +kernel
theorem u82_52 {d : Nat} {ls : Lo} {st : List Va} {σ : Sg} {Q : Rs → Sg → Prop} : Wx d 82 52 ls st σ Q ↔ Wx d 82 53 ls (vi 0 :: st) σ Q := u_iconst d82_52
theorem d82_53 : decode (mB 82) 53 = .ok (.goto 17, 3) := by decide +kernel
theorem u82_53 {d : Nat} {ls : Lo} {st : List Va} {σ : Sg} {Q : Rs → Sg → Prop} : Wx d 82 53 ls st σ Q ↔ Wx d 82 70 ls st σ Q := u_goto d82_53 (by decide)
theorem d82_56 : decode (mB 82) 56 = .ok (.bipush 12, 2) := by decide +kernel
theorem u82_56 {d : Nat} {ls : Lo} {st : List Va} {σ : Sg} {Q : Rs → Sg → Prop} : Wx d 82 56 ls st σ Q ↔ Wx d 82 58 ls (vi 12 :: st) σ Q := u_bipush d82_56 (by decide)
theorem d82_58 : decode (mB 82) 58 = .ok (.iload_n 3, 1) := by decide +kernel
theorem u82_58 {d : Nat} {ls : Lo} {st : List Va} {σ : Sg} {Q : Rs → Sg → Prop} : Wx d 82 58 ls st σ Q ↔ Li (lget ls 3) (fun z => Wx d 82 59 ls (vi z :: st) σ Q) := u_iload_n d82_58
theorem d82_59 : decode (mB 82) 59 = .ok (.imul, 1) := by decide +kernel
theorem u82_59 {d : Nat} {ls : Lo} {st : List Va} {σ : Sg} {Q : Rs → Sg → Prop} {a b : Int} : Wx d 82 59 ls (vi b :: vi a :: st) σ Q ↔ Wx d 82 60 ls (vi (a * b) :: st) σ Q := u_imul d82_59
theorem d82_60 : decode (mB 82) 60 = .ok (.aload_n 0, 1) := by decide +kernel
theorem u82_60 {d : Nat} {ls : Lo} {st : List Va} {σ : Sg} {Q : Rs → Sg → Prop} : Wx d 82 60 ls st σ Q ↔ Lr (lget ls 0) (fun z => Wx d 82 61 ls (.inr (.inl z) :: st) σ Q) := u_aload_n d82_60
theorem d82_61 : decode (mB 82) 61 = .ok (.getfield 7, 3) := by decide +kernel
theorem u82_61 {d : Nat} {ls : Lo} {st : List Va} {σ : Sg} {Q : Rs → Sg → Prop} {g j : Nat} : Wx d 82 61 ls (vr g j :: st) σ Q ↔ isO g j 7 ∧ Wx d 82 64 ls (fvv σ g j 1 :: st) σ Q := u_get (w := (7, 1)) d82_61 rfl
theorem d82_64 : decode (mB 82) 64 = .ok (.iload_n 2, 1) := by decide +kernel
theorem u82_64 {d : Nat} {ls : Lo} {st : List Va} {σ : Sg} {Q : Rs → Sg → Prop} : Wx d 82 64 ls st σ Q ↔ Li (lget ls 2) (fun z => Wx d 82 65 ls (vi z :: st) σ Q) := u_iload_n d82_64
theorem d82_65 : decode (mB 82) 65 = .ok (.iaload, 1) := by decide +kernel
theorem u82_65 {d : Nat} {ls : Lo} {st : List Va} {σ : Sg} {Q : Rs → Sg → Prop} {z : Int} {g j : Nat} : Wx d 82 65 ls (vi z :: vr g j :: st) σ Q ↔ On (ial σ g j z) (fun x => Wx d 82 66 ls (vi x :: st) σ Q) := u_iald d82_65
theorem d82_66 : decode (mB 82) 66 = .ok (.iadd, 1) := by decide +kernel
theorem u82_66 {d : Nat} {ls : Lo} {st : List Va} {σ : Sg} {Q : Rs → Sg → Prop} {a b : Int} : Wx d 82 66 ls (vi b :: vi a :: st) σ Q ↔ Wx d 82 67 ls (vi (a + b) :: st) σ Q := u_iadd d82_66
theorem d82_67 : decode (mB 82) 67 = .ok (.iload 4, 2) := by decide +kernel
theorem u82_67 {d : Nat} {ls : Lo} {st : List Va} {σ : Sg} {Q : Rs → Sg → Prop} : Wx d 82 67 ls st σ Q ↔ Li (lget ls 4) (fun z => Wx d 82 69 ls (vi z :: st) σ Q) := u_iload d82_67
theorem d82_69 : decode (mB 82) 69 = .ok (.iadd, 1) := by decide +kernel
theorem u82_69 {d : Nat} {ls : Lo} {st : List Va} {σ : Sg} {Q : Rs → Sg → Prop} {a b : Int} : Wx d 82 69 ls (vi b :: vi a :: st) σ Q ↔ Wx d 82 70 ls (vi (a + b) :: st) σ Q := u_iadd d82_69
theorem d82_70 : decode (mB 82) 70 = .ok (.istore 6, 2) := by decide +kernel
theorem u82_70 {d : Nat} {ls : Lo} {st : List Va} {σ : Sg} {Q : Rs → Sg → Prop} {z : Int} : Wx d 82 70 ls (vi z :: st) σ Q ↔ Wx d 82 72 (lset ls 6 (vi z)) st σ Q := u_istore d82_70 (by decide)
theorem d82_72 : decode (mB 82) 72 = .ok (.aload_n 0, 1) := by decide +kernel
theorem u82_72 {d : Nat} {ls : Lo} {st : List Va} {σ : Sg} {Q : Rs → Sg → Prop} : Wx d 82 72 ls st σ Q ↔ Lr (lget ls 0) (fun z => Wx d 82 73 ls (.inr (.inl z) :: st) σ Q) := u_aload_n d82_72
theorem d82_73 : decode (mB 82) 73 = .ok (.iload 5, 2) := by decide +kernel
theorem u82_73 {d : Nat} {ls : Lo} {st : List Va} {σ : Sg} {Q : Rs → Sg → Prop} : Wx d 82 73 ls st σ Q ↔ Li (lget ls 5) (fun z => Wx d 82 75 ls (vi z :: st) σ Q) := u_iload d82_73
theorem d82_75 : decode (mB 82) 75 = .ok (.ifCond .ne 17, 3) := by decide +kernel
theorem u82_75 {d : Nat} {ls : Lo} {st : List Va} {σ : Sg} {Q : Rs → Sg → Prop} {a : Int} (h : -2147483648 ≤ a ∧ a ≤ 2147483647) : Wx d 82 75 ls (vi a :: st) σ Q ↔ if ¬ a = 0 then Wx d 82 92 ls st σ Q else Wx d 82 78 ls st σ Q := u_ifne d82_75 (by decide) h
theorem d82_78 : decode (mB 82) 78 = .ok (.iload 6, 2) := by decide +kernel
theorem u82_78 {d : Nat} {ls : Lo} {st : List Va} {σ : Sg} {Q : Rs → Sg → Prop} : Wx d 82 78 ls st σ Q ↔ Li (lget ls 6) (fun z => Wx d 82 80 ls (vi z :: st) σ Q) := u_iload d82_78
theorem d82_80 : decode (mB 82) 80 = .ok (.bipush 36, 2) := by decide +kernel
theorem u82_80 {d : Nat} {ls : Lo} {st : List Va} {σ : Sg} {Q : Rs → Sg → Prop} : Wx d 82 80 ls st σ Q ↔ Wx d 82 82 ls (vi 36 :: st) σ Q := u_bipush d82_80 (by decide)
theorem d82_82 : decode (mB 82) 82 = .ok (.if_icmp .lt 10, 3) := by decide +kernel
theorem u82_82 {d : Nat} {ls : Lo} {st : List Va} {σ : Sg} {Q : Rs → Sg → Prop} {a b : Int} (h : -2147483648 ≤ a ∧ a ≤ 2147483647) (h2 : -2147483648 ≤ b ∧ b ≤ 2147483647) : Wx d 82 82 ls (vi b :: vi a :: st) σ Q ↔ if a < b then Wx d 82 92 ls st σ Q else Wx d 82 85 ls st σ Q := u_iclt d82_82 (by decide) h h2
theorem d82_85 : decode (mB 82) 85 = .ok (.iload 6, 2) := by decide +kernel
theorem u82_85 {d : Nat} {ls : Lo} {st : List Va} {σ : Sg} {Q : Rs → Sg → Prop} : Wx d 82 85 ls st σ Q ↔ Li (lget ls 6) (fun z => Wx d 82 87 ls (vi z :: st) σ Q) := u_iload d82_85
theorem d82_87 : decode (mB 82) 87 = .ok (.bipush 60, 2) := by decide +kernel
theorem u82_87 {d : Nat} {ls : Lo} {st : List Va} {σ : Sg} {Q : Rs → Sg → Prop} : Wx d 82 87 ls st σ Q ↔ Wx d 82 89 ls (vi 60 :: st) σ Q := u_bipush d82_87 (by decide)
theorem d82_89 : decode (mB 82) 89 = .ok (.if_icmp .le 7, 3) := by decide +kernel
theorem u82_89 {d : Nat} {ls : Lo} {st : List Va} {σ : Sg} {Q : Rs → Sg → Prop} {a b : Int} (h : -2147483648 ≤ a ∧ a ≤ 2147483647) (h2 : -2147483648 ≤ b ∧ b ≤ 2147483647) : Wx d 82 89 ls (vi b :: vi a :: st) σ Q ↔ if a ≤ b then Wx d 82 96 ls st σ Q else Wx d 82 92 ls st σ Q := u_icle d82_89 (by decide) h h2
theorem d82_92 : decode (mB 82) 92 = .ok (.iconst 1, 1) := by decide +kernel
theorem u82_92 {d : Nat} {ls : Lo} {st : List Va} {σ : Sg} {Q : Rs → Sg → Prop} : Wx d 82 92 ls st σ Q ↔ Wx d 82 93 ls (vi 1 :: st) σ Q := u_iconst d82_92
theorem d82_93 : decode (mB 82) 93 = .ok (.goto 4, 3) := by decide +kernel
theorem u82_93 {d : Nat} {ls : Lo} {st : List Va} {σ : Sg} {Q : Rs → Sg → Prop} : Wx d 82 93 ls st σ Q ↔ Wx d 82 97 ls st σ Q := u_goto d82_93 (by decide)
theorem d82_96 : decode (mB 82) 96 = .ok (.iconst 0, 1) := by decide +kernel
theorem u82_96 {d : Nat} {ls : Lo} {st : List Va} {σ : Sg} {Q : Rs → Sg → Prop} : Wx d 82 96 ls st σ Q ↔ Wx d 82 97 ls (vi 0 :: st) σ Q := u_iconst d82_96
theorem d82_97 : decode (mB 82) 97 = .ok (.putfield 108, 3) := by decide +kernel
theorem u82_97 {d : Nat} {ls : Lo} {st : List Va} {σ : Sg} {Q : Rs → Sg → Prop} {z : Int} {g j : Nat} : Wx d 82 97 ls (vi z :: vr g j :: st) σ Q ↔ (isO g j 7 ∧ rf g j 0 = none) ∧ Wx d 82 100 ls st (up σ g j 0 z) Q := u_put (w := (7, 0)) d82_97 rfl rfl rfl
theorem d82_100 : decode (mB 82) 100 = .ok (.aload_n 0, 1) := by decide +kernel
theorem u82_100 {d : Nat} {ls : Lo} {st : List Va} {σ : Sg} {Q : Rs → Sg → Prop} : Wx d 82 100 ls st σ Q ↔ Lr (lget ls 0) (fun z => Wx d 82 101 ls (.inr (.inl z) :: st) σ Q) := u_aload_n d82_100
theorem d82_101 : decode (mB 82) 101 = .ok (.getfield 108, 3) := by decide +kernel
theorem u82_101 {d : Nat} {ls : Lo} {st : List Va} {σ : Sg} {Q : Rs → Sg → Prop} {g j : Nat} : Wx d 82 101 ls (vr g j :: st) σ Q ↔ isO g j 7 ∧ Wx d 82 104 ls (fvv σ g j 0 :: st) σ Q := u_get (w := (7, 0)) d82_101 rfl
theorem d82_104 : decode (mB 82) 104 = .ok (.ifCond .eq 5, 3) := by decide +kernel
theorem u82_104 {d : Nat} {ls : Lo} {st : List Va} {σ : Sg} {Q : Rs → Sg → Prop} {a : Int} (h : -2147483648 ≤ a ∧ a ≤ 2147483647) : Wx d 82 104 ls (vi a :: st) σ Q ↔ if a = 0 then Wx d 82 109 ls st σ Q else Wx d 82 107 ls st σ Q := u_ifeq d82_104 (by decide) h
theorem d82_107 : decode (mB 82) 107 = .ok (.iconst 0, 1) := by decide +kernel
theorem u82_107 {d : Nat} {ls : Lo} {st : List Va} {σ : Sg} {Q : Rs → Sg → Prop} : Wx d 82 107 ls st σ Q ↔ Wx d 82 108 ls (vi 0 :: st) σ Q := u_iconst d82_107
theorem d82_108 : decode (mB 82) 108 = .ok (.ireturn, 1) := by decide +kernel
theorem u82_108 {d : Nat} {ls : Lo} {σ : Sg} {Q : Rs → Sg → Prop} {z : Int} : Wx d 82 108 ls [vi z] σ Q ↔ Q (.inl (some (vi z))) σ := u_iret d82_108 rfl
theorem d82_109 : decode (mB 82) 109 = .ok (.aload_n 0, 1) := by decide +kernel
theorem u82_109 {d : Nat} {ls : Lo} {st : List Va} {σ : Sg} {Q : Rs → Sg → Prop} : Wx d 82 109 ls st σ Q ↔ Lr (lget ls 0) (fun z => Wx d 82 110 ls (.inr (.inl z) :: st) σ Q) := u_aload_n d82_109
theorem d82_110 : decode (mB 82) 110 = .ok (.getfield 26, 3) := by decide +kernel
theorem u82_110 {d : Nat} {ls : Lo} {st : List Va} {σ : Sg} {Q : Rs → Sg → Prop} {g j : Nat} : Wx d 82 110 ls (vr g j :: st) σ Q ↔ isO g j 7 ∧ Wx d 82 113 ls (fvv σ g j 8 :: st) σ Q := u_get (w := (7, 8)) d82_110 rfl
theorem d82_113 : decode (mB 82) 113 = .ok (.iload_n 1, 1) := by decide +kernel
theorem u82_113 {d : Nat} {ls : Lo} {st : List Va} {σ : Sg} {Q : Rs → Sg → Prop} : Wx d 82 113 ls st σ Q ↔ Li (lget ls 1) (fun z => Wx d 82 114 ls (vi z :: st) σ Q) := u_iload_n d82_113
theorem d82_114 : decode (mB 82) 114 = .ok (.iload 6, 2) := by decide +kernel
theorem u82_114 {d : Nat} {ls : Lo} {st : List Va} {σ : Sg} {Q : Rs → Sg → Prop} : Wx d 82 114 ls st σ Q ↔ Li (lget ls 6) (fun z => Wx d 82 116 ls (vi z :: st) σ Q) := u_iload d82_114
theorem d82_116 : decode (mB 82) 116 = .ok (.iastore, 1) := by decide +kernel
theorem u82_116 {d : Nat} {ls : Lo} {st : List Va} {σ : Sg} {Q : Rs → Sg → Prop} {x z : Int} {g j : Nat} : Wx d 82 116 ls (vi x :: vi z :: vr g j :: st) σ Q ↔ isA g j 0 z ∧ Wx d 82 117 ls st (up σ g j z.toNat x) Q := u_iast d82_116
theorem d82_117 : decode (mB 82) 117 = .ok (.aload_n 0, 1) := by decide +kernel
theorem u82_117 {d : Nat} {ls : Lo} {st : List Va} {σ : Sg} {Q : Rs → Sg → Prop} : Wx d 82 117 ls st σ Q ↔ Lr (lget ls 0) (fun z => Wx d 82 118 ls (.inr (.inl z) :: st) σ Q) := u_aload_n d82_117
theorem d82_118 : decode (mB 82) 118 = .ok (.getfield 29, 3) := by decide +kernel
theorem u82_118 {d : Nat} {ls : Lo} {st : List Va} {σ : Sg} {Q : Rs → Sg → Prop} {g j : Nat} : Wx d 82 118 ls (vr g j :: st) σ Q ↔ isO g j 7 ∧ Wx d 82 121 ls (fvv σ g j 9 :: st) σ Q := u_get (w := (7, 9)) d82_118 rfl
theorem d82_121 : decode (mB 82) 121 = .ok (.iload_n 1, 1) := by decide +kernel
theorem u82_121 {d : Nat} {ls : Lo} {st : List Va} {σ : Sg} {Q : Rs → Sg → Prop} : Wx d 82 121 ls st σ Q ↔ Li (lget ls 1) (fun z => Wx d 82 122 ls (vi z :: st) σ Q) := u_iload_n d82_121
theorem d82_122 : decode (mB 82) 122 = .ok (.iload_n 2, 1) := by decide +kernel
theorem u82_122 {d : Nat} {ls : Lo} {st : List Va} {σ : Sg} {Q : Rs → Sg → Prop} : Wx d 82 122 ls st σ Q ↔ Li (lget ls 2) (fun z => Wx d 82 123 ls (vi z :: st) σ Q) := u_iload_n d82_122
theorem d82_123 : decode (mB 82) 123 = .ok (.iastore, 1) := by decide +kernel
theorem u82_123 {d : Nat} {ls : Lo} {st : List Va} {σ : Sg} {Q : Rs → Sg → Prop} {x z : Int} {g j : Nat} : Wx d 82 123 ls (vi x :: vi z :: vr g j :: st) σ Q ↔ isA g j 0 z ∧ Wx d 82 124 ls st (up σ g j z.toNat x) Q := u_iast d82_123
theorem d82_124 : decode (mB 82) 124 = .ok (.aload_n 0, 1) := by decide +kernel
theorem u82_124 {d : Nat} {ls : Lo} {st : List Va} {σ : Sg} {Q : Rs → Sg → Prop} : Wx d 82 124 ls st σ Q ↔ Lr (lget ls 0) (fun z => Wx d 82 125 ls (.inr (.inl z) :: st) σ Q) := u_aload_n d82_124
theorem d82_125 : decode (mB 82) 125 = .ok (.getfield 32, 3) := by decide +kernel
theorem u82_125 {d : Nat} {ls : Lo} {st : List Va} {σ : Sg} {Q : Rs → Sg → Prop} {g j : Nat} : Wx d 82 125 ls (vr g j :: st) σ Q ↔ isO g j 7 ∧ Wx d 82 128 ls (fvv σ g j 10 :: st) σ Q := u_get (w := (7, 10)) d82_125 rfl
theorem d82_128 : decode (mB 82) 128 = .ok (.iload_n 1, 1) := by decide +kernel
theorem u82_128 {d : Nat} {ls : Lo} {st : List Va} {σ : Sg} {Q : Rs → Sg → Prop} : Wx d 82 128 ls st σ Q ↔ Li (lget ls 1) (fun z => Wx d 82 129 ls (vi z :: st) σ Q) := u_iload_n d82_128
theorem d82_129 : decode (mB 82) 129 = .ok (.iload 4, 2) := by decide +kernel
theorem u82_129 {d : Nat} {ls : Lo} {st : List Va} {σ : Sg} {Q : Rs → Sg → Prop} : Wx d 82 129 ls st σ Q ↔ Li (lget ls 4) (fun z => Wx d 82 131 ls (vi z :: st) σ Q) := u_iload d82_129
theorem d82_131 : decode (mB 82) 131 = .ok (.iastore, 1) := by decide +kernel
theorem u82_131 {d : Nat} {ls : Lo} {st : List Va} {σ : Sg} {Q : Rs → Sg → Prop} {x z : Int} {g j : Nat} : Wx d 82 131 ls (vi x :: vi z :: vr g j :: st) σ Q ↔ isA g j 0 z ∧ Wx d 82 132 ls st (up σ g j z.toNat x) Q := u_iast d82_131
theorem d82_132 : decode (mB 82) 132 = .ok (.aload_n 0, 1) := by decide +kernel
theorem u82_132 {d : Nat} {ls : Lo} {st : List Va} {σ : Sg} {Q : Rs → Sg → Prop} : Wx d 82 132 ls st σ Q ↔ Lr (lget ls 0) (fun z => Wx d 82 133 ls (.inr (.inl z) :: st) σ Q) := u_aload_n d82_132
theorem d82_133 : decode (mB 82) 133 = .ok (.getfield 35, 3) := by decide +kernel
theorem u82_133 {d : Nat} {ls : Lo} {st : List Va} {σ : Sg} {Q : Rs → Sg → Prop} {g j : Nat} : Wx d 82 133 ls (vr g j :: st) σ Q ↔ isO g j 7 ∧ Wx d 82 136 ls (fvv σ g j 11 :: st) σ Q := u_get (w := (7, 11)) d82_133 rfl
theorem d82_136 : decode (mB 82) 136 = .ok (.iload_n 1, 1) := by decide +kernel
theorem u82_136 {d : Nat} {ls : Lo} {st : List Va} {σ : Sg} {Q : Rs → Sg → Prop} : Wx d 82 136 ls st σ Q ↔ Li (lget ls 1) (fun z => Wx d 82 137 ls (vi z :: st) σ Q) := u_iload_n d82_136
theorem d82_137 : decode (mB 82) 137 = .ok (.iconst 0, 1) := by decide +kernel
theorem u82_137 {d : Nat} {ls : Lo} {st : List Va} {σ : Sg} {Q : Rs → Sg → Prop} : Wx d 82 137 ls st σ Q ↔ Wx d 82 138 ls (vi 0 :: st) σ Q := u_iconst d82_137
theorem d82_138 : decode (mB 82) 138 = .ok (.iastore, 1) := by decide +kernel
theorem u82_138 {d : Nat} {ls : Lo} {st : List Va} {σ : Sg} {Q : Rs → Sg → Prop} {x z : Int} {g j : Nat} : Wx d 82 138 ls (vi x :: vi z :: vr g j :: st) σ Q ↔ isA g j 0 z ∧ Wx d 82 139 ls st (up σ g j z.toNat x) Q := u_iast d82_138
theorem d82_139 : decode (mB 82) 139 = .ok (.aload_n 0, 1) := by decide +kernel
theorem u82_139 {d : Nat} {ls : Lo} {st : List Va} {σ : Sg} {Q : Rs → Sg → Prop} : Wx d 82 139 ls st σ Q ↔ Lr (lget ls 0) (fun z => Wx d 82 140 ls (.inr (.inl z) :: st) σ Q) := u_aload_n d82_139
theorem d82_140 : decode (mB 82) 140 = .ok (.iconst 0, 1) := by decide +kernel
theorem u82_140 {d : Nat} {ls : Lo} {st : List Va} {σ : Sg} {Q : Rs → Sg → Prop} : Wx d 82 140 ls st σ Q ↔ Wx d 82 141 ls (vi 0 :: st) σ Q := u_iconst d82_140
theorem d82_141 : decode (mB 82) 141 = .ok (.putfield 129, 3) := by decide +kernel
theorem u82_141 {d : Nat} {ls : Lo} {st : List Va} {σ : Sg} {Q : Rs → Sg → Prop} {z : Int} {g j : Nat} : Wx d 82 141 ls (vi z :: vr g j :: st) σ Q ↔ (isO g j 7 ∧ rf g j 32 = none ∧ (z = 0 ∨ z = 1)) ∧ Wx d 82 144 ls st (up σ g j 32 z) Q := u_putz (w := (7, 32)) d82_141 rfl rfl rfl
theorem d82_144 : decode (mB 82) 144 = .ok (.iload 6, 2) := by decide +kernel
theorem u82_144 {d : Nat} {ls : Lo} {st : List Va} {σ : Sg} {Q : Rs → Sg → Prop} : Wx d 82 144 ls st σ Q ↔ Li (lget ls 6) (fun z => Wx d 82 146 ls (vi z :: st) σ Q) := u_iload d82_144
theorem d82_146 : decode (mB 82) 146 = .ok (.ireturn, 1) := by decide +kernel
theorem u82_146 {d : Nat} {ls : Lo} {σ : Sg} {Q : Rs → Sg → Prop} {z : Int} : Wx d 82 146 ls [vi z] σ Q ↔ Q (.inl (some (vi z))) σ := u_iret d82_146 rfl
/-! 83: FiguredBassModel.figure(III)I -/
theorem d83_0 : decode (mB 83) 0 = .ok (.aload_n 0, 1) := by decide +kernel
theorem u83_0 {d : Nat} {ls : Lo} {st : List Va} {σ : Sg} {Q : Rs → Sg → Prop} : Wx d 83 0 ls st σ Q ↔ Lr (lget ls 0) (fun z => Wx d 83 1 ls (.inr (.inl z) :: st) σ Q) := u_aload_n d83_0
theorem d83_1 : decode (mB 83) 1 = .ok (.aload_n 0, 1) := by decide +kernel
theorem u83_1 {d : Nat} {ls : Lo} {st : List Va} {σ : Sg} {Q : Rs → Sg → Prop} : Wx d 83 1 ls st σ Q ↔ Lr (lget ls 0) (fun z => Wx d 83 2 ls (.inr (.inl z) :: st) σ Q) := u_aload_n d83_1
theorem d83_2 : decode (mB 83) 2 = .ok (.iload_n 1, 1) := by decide +kernel
theorem u83_2 {d : Nat} {ls : Lo} {st : List Va} {σ : Sg} {Q : Rs → Sg → Prop} : Wx d 83 2 ls st σ Q ↔ Li (lget ls 1) (fun z => Wx d 83 3 ls (vi z :: st) σ Q) := u_iload_n d83_2
theorem d83_3 : decode (mB 83) 3 = .ok (.invokevirtual 132, 3) := by decide +kernel
theorem u83_3 {d : Nat} {ls : Lo} {st : List Va} {σ : Sg} {Q : Rs → Sg → Prop} {g j : Nat} {a1 : Va} : Wx (d + 1) 83 3 ls (a1 :: vr g j :: st) σ Q ↔ (isO g j 7 ∧ st.length ≤ 4 ∧ nlg [a1] = true) ∧ Wm d 81 [vr g j, a1] σ (Kc (d + 1) 83 6 ls st Q) := u_inv1 d83_3 rfl rfl rfl
theorem d83_6 : decode (mB 83) 6 = .ok (.ifCond .ne 23, 3) := by decide +kernel
theorem u83_6 {d : Nat} {ls : Lo} {st : List Va} {σ : Sg} {Q : Rs → Sg → Prop} {a : Int} (h : -2147483648 ≤ a ∧ a ≤ 2147483647) : Wx d 83 6 ls (vi a :: st) σ Q ↔ if ¬ a = 0 then Wx d 83 29 ls st σ Q else Wx d 83 9 ls st σ Q := u_ifne d83_6 (by decide) h
theorem d83_9 : decode (mB 83) 9 = .ok (.iload_n 2, 1) := by decide +kernel
theorem u83_9 {d : Nat} {ls : Lo} {st : List Va} {σ : Sg} {Q : Rs → Sg → Prop} : Wx d 83 9 ls st σ Q ↔ Li (lget ls 2) (fun z => Wx d 83 10 ls (vi z :: st) σ Q) := u_iload_n d83_9
theorem d83_10 : decode (mB 83) 10 = .ok (.iconst 2, 1) := by decide +kernel
theorem u83_10 {d : Nat} {ls : Lo} {st : List Va} {σ : Sg} {Q : Rs → Sg → Prop} : Wx d 83 10 ls st σ Q ↔ Wx d 83 11 ls (vi 2 :: st) σ Q := u_iconst d83_10
theorem d83_11 : decode (mB 83) 11 = .ok (.if_icmp .lt 18, 3) := by decide +kernel
theorem u83_11 {d : Nat} {ls : Lo} {st : List Va} {σ : Sg} {Q : Rs → Sg → Prop} {a b : Int} (h : -2147483648 ≤ a ∧ a ≤ 2147483647) (h2 : -2147483648 ≤ b ∧ b ≤ 2147483647) : Wx d 83 11 ls (vi b :: vi a :: st) σ Q ↔ if a < b then Wx d 83 29 ls st σ Q else Wx d 83 14 ls st σ Q := u_iclt d83_11 (by decide) h h2
theorem d83_14 : decode (mB 83) 14 = .ok (.iload_n 2, 1) := by decide +kernel
theorem u83_14 {d : Nat} {ls : Lo} {st : List Va} {σ : Sg} {Q : Rs → Sg → Prop} : Wx d 83 14 ls st σ Q ↔ Li (lget ls 2) (fun z => Wx d 83 15 ls (vi z :: st) σ Q) := u_iload_n d83_14
theorem d83_15 : decode (mB 83) 15 = .ok (.bipush 9, 2) := by decide +kernel
theorem u83_15 {d : Nat} {ls : Lo} {st : List Va} {σ : Sg} {Q : Rs → Sg → Prop} : Wx d 83 15 ls st σ Q ↔ Wx d 83 17 ls (vi 9 :: st) σ Q := u_bipush d83_15 (by decide)
theorem d83_17 : decode (mB 83) 17 = .ok (.if_icmp .gt 12, 3) := by decide +kernel
theorem u83_17 {d : Nat} {ls : Lo} {st : List Va} {σ : Sg} {Q : Rs → Sg → Prop} {a b : Int} (h : -2147483648 ≤ a ∧ a ≤ 2147483647) (h2 : -2147483648 ≤ b ∧ b ≤ 2147483647) : Wx d 83 17 ls (vi b :: vi a :: st) σ Q ↔ if b < a then Wx d 83 29 ls st σ Q else Wx d 83 20 ls st σ Q := u_icgt d83_17 (by decide) h h2
theorem d83_20 : decode (mB 83) 20 = .ok (.iload_n 3, 1) := by decide +kernel
theorem u83_20 {d : Nat} {ls : Lo} {st : List Va} {σ : Sg} {Q : Rs → Sg → Prop} : Wx d 83 20 ls st σ Q ↔ Li (lget ls 3) (fun z => Wx d 83 21 ls (vi z :: st) σ Q) := u_iload_n d83_20
theorem d83_21 : decode (mB 83) 21 = .ok (.ifCond .lt 8, 3) := by decide +kernel
theorem u83_21 {d : Nat} {ls : Lo} {st : List Va} {σ : Sg} {Q : Rs → Sg → Prop} {a : Int} (h : -2147483648 ≤ a ∧ a ≤ 2147483647) : Wx d 83 21 ls (vi a :: st) σ Q ↔ if a < 0 then Wx d 83 29 ls st σ Q else Wx d 83 24 ls st σ Q := u_iflt d83_21 (by decide) h
theorem d83_24 : decode (mB 83) 24 = .ok (.iload_n 3, 1) := by decide +kernel
theorem u83_24 {d : Nat} {ls : Lo} {st : List Va} {σ : Sg} {Q : Rs → Sg → Prop} : Wx d 83 24 ls st σ Q ↔ Li (lget ls 3) (fun z => Wx d 83 25 ls (vi z :: st) σ Q) := u_iload_n d83_24
theorem d83_25 : decode (mB 83) 25 = .ok (.iconst 3, 1) := by decide +kernel
theorem u83_25 {d : Nat} {ls : Lo} {st : List Va} {σ : Sg} {Q : Rs → Sg → Prop} : Wx d 83 25 ls st σ Q ↔ Wx d 83 26 ls (vi 3 :: st) σ Q := u_iconst d83_25
theorem d83_26 : decode (mB 83) 26 = .ok (.if_icmp .le 7, 3) := by decide +kernel
theorem u83_26 {d : Nat} {ls : Lo} {st : List Va} {σ : Sg} {Q : Rs → Sg → Prop} {a b : Int} (h : -2147483648 ≤ a ∧ a ≤ 2147483647) (h2 : -2147483648 ≤ b ∧ b ≤ 2147483647) : Wx d 83 26 ls (vi b :: vi a :: st) σ Q ↔ if a ≤ b then Wx d 83 33 ls st σ Q else Wx d 83 29 ls st σ Q := u_icle d83_26 (by decide) h h2
theorem d83_29 : decode (mB 83) 29 = .ok (.iconst 1, 1) := by decide +kernel
theorem u83_29 {d : Nat} {ls : Lo} {st : List Va} {σ : Sg} {Q : Rs → Sg → Prop} : Wx d 83 29 ls st σ Q ↔ Wx d 83 30 ls (vi 1 :: st) σ Q := u_iconst d83_29
theorem d83_30 : decode (mB 83) 30 = .ok (.goto 4, 3) := by decide +kernel
theorem u83_30 {d : Nat} {ls : Lo} {st : List Va} {σ : Sg} {Q : Rs → Sg → Prop} : Wx d 83 30 ls st σ Q ↔ Wx d 83 34 ls st σ Q := u_goto d83_30 (by decide)
theorem d83_33 : decode (mB 83) 33 = .ok (.iconst 0, 1) := by decide +kernel
theorem u83_33 {d : Nat} {ls : Lo} {st : List Va} {σ : Sg} {Q : Rs → Sg → Prop} : Wx d 83 33 ls st σ Q ↔ Wx d 83 34 ls (vi 0 :: st) σ Q := u_iconst d83_33
theorem d83_34 : decode (mB 83) 34 = .ok (.putfield 108, 3) := by decide +kernel
theorem u83_34 {d : Nat} {ls : Lo} {st : List Va} {σ : Sg} {Q : Rs → Sg → Prop} {z : Int} {g j : Nat} : Wx d 83 34 ls (vi z :: vr g j :: st) σ Q ↔ (isO g j 7 ∧ rf g j 0 = none) ∧ Wx d 83 37 ls st (up σ g j 0 z) Q := u_put (w := (7, 0)) d83_34 rfl rfl rfl
theorem d83_37 : decode (mB 83) 37 = .ok (.aload_n 0, 1) := by decide +kernel
theorem u83_37 {d : Nat} {ls : Lo} {st : List Va} {σ : Sg} {Q : Rs → Sg → Prop} : Wx d 83 37 ls st σ Q ↔ Lr (lget ls 0) (fun z => Wx d 83 38 ls (.inr (.inl z) :: st) σ Q) := u_aload_n d83_37
theorem d83_38 : decode (mB 83) 38 = .ok (.getfield 108, 3) := by decide +kernel
theorem u83_38 {d : Nat} {ls : Lo} {st : List Va} {σ : Sg} {Q : Rs → Sg → Prop} {g j : Nat} : Wx d 83 38 ls (vr g j :: st) σ Q ↔ isO g j 7 ∧ Wx d 83 41 ls (fvv σ g j 0 :: st) σ Q := u_get (w := (7, 0)) d83_38 rfl
theorem d83_41 : decode (mB 83) 41 = .ok (.ifCond .eq 5, 3) := by decide +kernel
theorem u83_41 {d : Nat} {ls : Lo} {st : List Va} {σ : Sg} {Q : Rs → Sg → Prop} {a : Int} (h : -2147483648 ≤ a ∧ a ≤ 2147483647) : Wx d 83 41 ls (vi a :: st) σ Q ↔ if a = 0 then Wx d 83 46 ls st σ Q else Wx d 83 44 ls st σ Q := u_ifeq d83_41 (by decide) h
theorem d83_44 : decode (mB 83) 44 = .ok (.iconst 0, 1) := by decide +kernel
theorem u83_44 {d : Nat} {ls : Lo} {st : List Va} {σ : Sg} {Q : Rs → Sg → Prop} : Wx d 83 44 ls st σ Q ↔ Wx d 83 45 ls (vi 0 :: st) σ Q := u_iconst d83_44
theorem d83_45 : decode (mB 83) 45 = .ok (.ireturn, 1) := by decide +kernel
theorem u83_45 {d : Nat} {ls : Lo} {σ : Sg} {Q : Rs → Sg → Prop} {z : Int} : Wx d 83 45 ls [vi z] σ Q ↔ Q (.inl (some (vi z))) σ := u_iret d83_45 rfl
theorem d83_46 : decode (mB 83) 46 = .ok (.aload_n 0, 1) := by decide +kernel
theorem u83_46 {d : Nat} {ls : Lo} {st : List Va} {σ : Sg} {Q : Rs → Sg → Prop} : Wx d 83 46 ls st σ Q ↔ Lr (lget ls 0) (fun z => Wx d 83 47 ls (.inr (.inl z) :: st) σ Q) := u_aload_n d83_46
theorem d83_47 : decode (mB 83) 47 = .ok (.aload_n 0, 1) := by decide +kernel
theorem u83_47 {d : Nat} {ls : Lo} {st : List Va} {σ : Sg} {Q : Rs → Sg → Prop} : Wx d 83 47 ls st σ Q ↔ Lr (lget ls 0) (fun z => Wx d 83 48 ls (.inr (.inl z) :: st) σ Q) := u_aload_n d83_47
theorem d83_48 : decode (mB 83) 48 = .ok (.getfield 35, 3) := by decide +kernel
theorem u83_48 {d : Nat} {ls : Lo} {st : List Va} {σ : Sg} {Q : Rs → Sg → Prop} {g j : Nat} : Wx d 83 48 ls (vr g j :: st) σ Q ↔ isO g j 7 ∧ Wx d 83 51 ls (fvv σ g j 11 :: st) σ Q := u_get (w := (7, 11)) d83_48 rfl
theorem d83_51 : decode (mB 83) 51 = .ok (.iload_n 1, 1) := by decide +kernel
theorem u83_51 {d : Nat} {ls : Lo} {st : List Va} {σ : Sg} {Q : Rs → Sg → Prop} : Wx d 83 51 ls st σ Q ↔ Li (lget ls 1) (fun z => Wx d 83 52 ls (vi z :: st) σ Q) := u_iload_n d83_51
theorem d83_52 : decode (mB 83) 52 = .ok (.iaload, 1) := by decide +kernel
theorem u83_52 {d : Nat} {ls : Lo} {st : List Va} {σ : Sg} {Q : Rs → Sg → Prop} {z : Int} {g j : Nat} : Wx d 83 52 ls (vi z :: vr g j :: st) σ Q ↔ On (ial σ g j z) (fun x => Wx d 83 53 ls (vi x :: st) σ Q) := u_iald d83_52
theorem d83_53 : decode (mB 83) 53 = .ok (.iconst 3, 1) := by decide +kernel
theorem u83_53 {d : Nat} {ls : Lo} {st : List Va} {σ : Sg} {Q : Rs → Sg → Prop} : Wx d 83 53 ls st σ Q ↔ Wx d 83 54 ls (vi 3 :: st) σ Q := u_iconst d83_53
theorem d83_54 : decode (mB 83) 54 = .ok (.if_icmp .eq 12, 3) := by decide +kernel
theorem u83_54 {d : Nat} {ls : Lo} {st : List Va} {σ : Sg} {Q : Rs → Sg → Prop} {a b : Int} (h : -2147483648 ≤ a ∧ a ≤ 2147483647) (h2 : -2147483648 ≤ b ∧ b ≤ 2147483647) : Wx d 83 54 ls (vi b :: vi a :: st) σ Q ↔ if a = b then Wx d 83 66 ls st σ Q else Wx d 83 57 ls st σ Q := u_iceq d83_54 (by decide) h h2
theorem d83_57 : decode (mB 83) 57 = .ok (.aload_n 0, 1) := by decide +kernel
theorem u83_57 {d : Nat} {ls : Lo} {st : List Va} {σ : Sg} {Q : Rs → Sg → Prop} : Wx d 83 57 ls st σ Q ↔ Lr (lget ls 0) (fun z => Wx d 83 58 ls (.inr (.inl z) :: st) σ Q) := u_aload_n d83_57
theorem d83_58 : decode (mB 83) 58 = .ok (.getfield 26, 3) := by decide +kernel
theorem u83_58 {d : Nat} {ls : Lo} {st : List Va} {σ : Sg} {Q : Rs → Sg → Prop} {g j : Nat} : Wx d 83 58 ls (vr g j :: st) σ Q ↔ isO g j 7 ∧ Wx d 83 61 ls (fvv σ g j 8 :: st) σ Q := u_get (w := (7, 8)) d83_58 rfl
theorem d83_61 : decode (mB 83) 61 = .ok (.iload_n 1, 1) := by decide +kernel
theorem u83_61 {d : Nat} {ls : Lo} {st : List Va} {σ : Sg} {Q : Rs → Sg → Prop} : Wx d 83 61 ls st σ Q ↔ Li (lget ls 1) (fun z => Wx d 83 62 ls (vi z :: st) σ Q) := u_iload_n d83_61
theorem d83_62 : decode (mB 83) 62 = .ok (.iaload, 1) := by decide +kernel
theorem u83_62 {d : Nat} {ls : Lo} {st : List Va} {σ : Sg} {Q : Rs → Sg → Prop} {z : Int} {g j : Nat} : Wx d 83 62 ls (vi z :: vr g j :: st) σ Q ↔ On (ial σ g j z) (fun x => Wx d 83 63 ls (vi x :: st) σ Q) := u_iald d83_62
theorem d83_63 : decode (mB 83) 63 = .ok (.ifCond .ne 7, 3) := by decide +kernel
theorem u83_63 {d : Nat} {ls : Lo} {st : List Va} {σ : Sg} {Q : Rs → Sg → Prop} {a : Int} (h : -2147483648 ≤ a ∧ a ≤ 2147483647) : Wx d 83 63 ls (vi a :: st) σ Q ↔ if ¬ a = 0 then Wx d 83 70 ls st σ Q else Wx d 83 66 ls st σ Q := u_ifne d83_63 (by decide) h
theorem d83_66 : decode (mB 83) 66 = .ok (.iconst 2, 1) := by decide +kernel
theorem u83_66 {d : Nat} {ls : Lo} {st : List Va} {σ : Sg} {Q : Rs → Sg → Prop} : Wx d 83 66 ls st σ Q ↔ Wx d 83 67 ls (vi 2 :: st) σ Q := u_iconst d83_66
theorem d83_67 : decode (mB 83) 67 = .ok (.goto 4, 3) := by decide +kernel
theorem u83_67 {d : Nat} {ls : Lo} {st : List Va} {σ : Sg} {Q : Rs → Sg → Prop} : Wx d 83 67 ls st σ Q ↔ Wx d 83 71 ls st σ Q := u_goto d83_67 (by decide)
theorem d83_70 : decode (mB 83) 70 = .ok (.iconst 0, 1) := by decide +kernel
theorem u83_70 {d : Nat} {ls : Lo} {st : List Va} {σ : Sg} {Q : Rs → Sg → Prop} : Wx d 83 70 ls st σ Q ↔ Wx d 83 71 ls (vi 0 :: st) σ Q := u_iconst d83_70
theorem d83_71 : decode (mB 83) 71 = .ok (.putfield 108, 3) := by decide +kernel
theorem u83_71 {d : Nat} {ls : Lo} {st : List Va} {σ : Sg} {Q : Rs → Sg → Prop} {z : Int} {g j : Nat} : Wx d 83 71 ls (vi z :: vr g j :: st) σ Q ↔ (isO g j 7 ∧ rf g j 0 = none) ∧ Wx d 83 74 ls st (up σ g j 0 z) Q := u_put (w := (7, 0)) d83_71 rfl rfl rfl
theorem d83_74 : decode (mB 83) 74 = .ok (.iconst 0, 1) := by decide +kernel
theorem u83_74 {d : Nat} {ls : Lo} {st : List Va} {σ : Sg} {Q : Rs → Sg → Prop} : Wx d 83 74 ls st σ Q ↔ Wx d 83 75 ls (vi 0 :: st) σ Q := u_iconst d83_74
theorem d83_75 : decode (mB 83) 75 = .ok (.istore 4, 2) := by decide +kernel
theorem u83_75 {d : Nat} {ls : Lo} {st : List Va} {σ : Sg} {Q : Rs → Sg → Prop} {z : Int} : Wx d 83 75 ls (vi z :: st) σ Q ↔ Wx d 83 77 (lset ls 4 (vi z)) st σ Q := u_istore d83_75 (by decide)
theorem d83_77 : decode (mB 83) 77 = .ok (.iload 4, 2) := by decide +kernel
theorem u83_77 {d : Nat} {ls : Lo} {st : List Va} {σ : Sg} {Q : Rs → Sg → Prop} : Wx d 83 77 ls st σ Q ↔ Li (lget ls 4) (fun z => Wx d 83 79 ls (vi z :: st) σ Q) := u_iload d83_77
theorem d83_79 : decode (mB 83) 79 = .ok (.aload_n 0, 1) := by decide +kernel
theorem u83_79 {d : Nat} {ls : Lo} {st : List Va} {σ : Sg} {Q : Rs → Sg → Prop} : Wx d 83 79 ls st σ Q ↔ Lr (lget ls 0) (fun z => Wx d 83 80 ls (.inr (.inl z) :: st) σ Q) := u_aload_n d83_79
theorem d83_80 : decode (mB 83) 80 = .ok (.getfield 35, 3) := by decide +kernel
theorem u83_80 {d : Nat} {ls : Lo} {st : List Va} {σ : Sg} {Q : Rs → Sg → Prop} {g j : Nat} : Wx d 83 80 ls (vr g j :: st) σ Q ↔ isO g j 7 ∧ Wx d 83 83 ls (fvv σ g j 11 :: st) σ Q := u_get (w := (7, 11)) d83_80 rfl
theorem d83_83 : decode (mB 83) 83 = .ok (.iload_n 1, 1) := by decide +kernel
theorem u83_83 {d : Nat} {ls : Lo} {st : List Va} {σ : Sg} {Q : Rs → Sg → Prop} : Wx d 83 83 ls st σ Q ↔ Li (lget ls 1) (fun z => Wx d 83 84 ls (vi z :: st) σ Q) := u_iload_n d83_83
theorem d83_84 : decode (mB 83) 84 = .ok (.iaload, 1) := by decide +kernel
theorem u83_84 {d : Nat} {ls : Lo} {st : List Va} {σ : Sg} {Q : Rs → Sg → Prop} {z : Int} {g j : Nat} : Wx d 83 84 ls (vi z :: vr g j :: st) σ Q ↔ On (ial σ g j z) (fun x => Wx d 83 85 ls (vi x :: st) σ Q) := u_iald d83_84
theorem d83_85 : decode (mB 83) 85 = .ok (.if_icmp .ge 36, 3) := by decide +kernel
theorem u83_85 {d : Nat} {ls : Lo} {st : List Va} {σ : Sg} {Q : Rs → Sg → Prop} {a b : Int} (h : -2147483648 ≤ a ∧ a ≤ 2147483647) (h2 : -2147483648 ≤ b ∧ b ≤ 2147483647) : Wx d 83 85 ls (vi b :: vi a :: st) σ Q ↔ if b ≤ a then Wx d 83 121 ls st σ Q else Wx d 83 88 ls st σ Q := u_icge d83_85 (by decide) h h2
theorem d83_88 : decode (mB 83) 88 = .ok (.aload_n 0, 1) := by decide +kernel
theorem u83_88 {d : Nat} {ls : Lo} {st : List Va} {σ : Sg} {Q : Rs → Sg → Prop} : Wx d 83 88 ls st σ Q ↔ Lr (lget ls 0) (fun z => Wx d 83 89 ls (.inr (.inl z) :: st) σ Q) := u_aload_n d83_88
theorem d83_89 : decode (mB 83) 89 = .ok (.aload_n 0, 1) := by decide +kernel
theorem u83_89 {d : Nat} {ls : Lo} {st : List Va} {σ : Sg} {Q : Rs → Sg → Prop} : Wx d 83 89 ls st σ Q ↔ Lr (lget ls 0) (fun z => Wx d 83 90 ls (.inr (.inl z) :: st) σ Q) := u_aload_n d83_89
theorem d83_90 : decode (mB 83) 90 = .ok (.getfield 38, 3) := by decide +kernel
theorem u83_90 {d : Nat} {ls : Lo} {st : List Va} {σ : Sg} {Q : Rs → Sg → Prop} {g j : Nat} : Wx d 83 90 ls (vr g j :: st) σ Q ↔ isO g j 7 ∧ Wx d 83 93 ls (fvv σ g j 12 :: st) σ Q := u_get (w := (7, 12)) d83_90 rfl
theorem d83_93 : decode (mB 83) 93 = .ok (.iconst 3, 1) := by decide +kernel
theorem u83_93 {d : Nat} {ls : Lo} {st : List Va} {σ : Sg} {Q : Rs → Sg → Prop} : Wx d 83 93 ls st σ Q ↔ Wx d 83 94 ls (vi 3 :: st) σ Q := u_iconst d83_93
theorem d83_94 : decode (mB 83) 94 = .ok (.iload_n 1, 1) := by decide +kernel
theorem u83_94 {d : Nat} {ls : Lo} {st : List Va} {σ : Sg} {Q : Rs → Sg → Prop} : Wx d 83 94 ls st σ Q ↔ Li (lget ls 1) (fun z => Wx d 83 95 ls (vi z :: st) σ Q) := u_iload_n d83_94
theorem d83_95 : decode (mB 83) 95 = .ok (.imul, 1) := by decide +kernel
theorem u83_95 {d : Nat} {ls : Lo} {st : List Va} {σ : Sg} {Q : Rs → Sg → Prop} {a b : Int} : Wx d 83 95 ls (vi b :: vi a :: st) σ Q ↔ Wx d 83 96 ls (vi (a * b) :: st) σ Q := u_imul d83_95
theorem d83_96 : decode (mB 83) 96 = .ok (.iload 4, 2) := by decide +kernel
theorem u83_96 {d : Nat} {ls : Lo} {st : List Va} {σ : Sg} {Q : Rs → Sg → Prop} : Wx d 83 96 ls st σ Q ↔ Li (lget ls 4) (fun z => Wx d 83 98 ls (vi z :: st) σ Q) := u_iload d83_96
theorem d83_98 : decode (mB 83) 98 = .ok (.iadd, 1) := by decide +kernel
theorem u83_98 {d : Nat} {ls : Lo} {st : List Va} {σ : Sg} {Q : Rs → Sg → Prop} {a b : Int} : Wx d 83 98 ls (vi b :: vi a :: st) σ Q ↔ Wx d 83 99 ls (vi (a + b) :: st) σ Q := u_iadd d83_98
theorem d83_99 : decode (mB 83) 99 = .ok (.iaload, 1) := by decide +kernel
theorem u83_99 {d : Nat} {ls : Lo} {st : List Va} {σ : Sg} {Q : Rs → Sg → Prop} {z : Int} {g j : Nat} : Wx d 83 99 ls (vi z :: vr g j :: st) σ Q ↔ On (ial σ g j z) (fun x => Wx d 83 100 ls (vi x :: st) σ Q) := u_iald d83_99
theorem d83_100 : decode (mB 83) 100 = .ok (.iload_n 2, 1) := by decide +kernel
theorem u83_100 {d : Nat} {ls : Lo} {st : List Va} {σ : Sg} {Q : Rs → Sg → Prop} : Wx d 83 100 ls st σ Q ↔ Li (lget ls 2) (fun z => Wx d 83 101 ls (vi z :: st) σ Q) := u_iload_n d83_100
theorem d83_101 : decode (mB 83) 101 = .ok (.if_icmp .ne 7, 3) := by decide +kernel
theorem u83_101 {d : Nat} {ls : Lo} {st : List Va} {σ : Sg} {Q : Rs → Sg → Prop} {a b : Int} (h : -2147483648 ≤ a ∧ a ≤ 2147483647) (h2 : -2147483648 ≤ b ∧ b ≤ 2147483647) : Wx d 83 101 ls (vi b :: vi a :: st) σ Q ↔ if ¬ a = b then Wx d 83 108 ls st σ Q else Wx d 83 104 ls st σ Q := u_icne d83_101 (by decide) h h2
theorem d83_104 : decode (mB 83) 104 = .ok (.iconst 2, 1) := by decide +kernel
theorem u83_104 {d : Nat} {ls : Lo} {st : List Va} {σ : Sg} {Q : Rs → Sg → Prop} : Wx d 83 104 ls st σ Q ↔ Wx d 83 105 ls (vi 2 :: st) σ Q := u_iconst d83_104
theorem d83_105 : decode (mB 83) 105 = .ok (.goto 7, 3) := by decide +kernel
theorem u83_105 {d : Nat} {ls : Lo} {st : List Va} {σ : Sg} {Q : Rs → Sg → Prop} : Wx d 83 105 ls st σ Q ↔ Wx d 83 112 ls st σ Q := u_goto d83_105 (by decide)
theorem d83_108 : decode (mB 83) 108 = .ok (.aload_n 0, 1) := by decide +kernel
theorem u83_108 {d : Nat} {ls : Lo} {st : List Va} {σ : Sg} {Q : Rs → Sg → Prop} : Wx d 83 108 ls st σ Q ↔ Lr (lget ls 0) (fun z => Wx d 83 109 ls (.inr (.inl z) :: st) σ Q) := u_aload_n d83_108
theorem d83_109 : decode (mB 83) 109 = .ok (.getfield 108, 3) := by decide +kernel
theorem u83_109 {d : Nat} {ls : Lo} {st : List Va} {σ : Sg} {Q : Rs → Sg → Prop} {g j : Nat} : Wx d 83 109 ls (vr g j :: st) σ Q ↔ isO g j 7 ∧ Wx d 83 112 ls (fvv σ g j 0 :: st) σ Q := u_get (w := (7, 0)) d83_109 rfl
theorem d83_112 : decode (mB 83) 112 = .ok (.putfield 108, 3) := by decide +kernel
theorem u83_112 {d : Nat} {ls : Lo} {st : List Va} {σ : Sg} {Q : Rs → Sg → Prop} {z : Int} {g j : Nat} : Wx d 83 112 ls (vi z :: vr g j :: st) σ Q ↔ (isO g j 7 ∧ rf g j 0 = none) ∧ Wx d 83 115 ls st (up σ g j 0 z) Q := u_put (w := (7, 0)) d83_112 rfl rfl rfl
theorem d83_115 : decode (mB 83) 115 = .ok (.iinc 4 1, 3) := by decide +kernel
theorem u83_115 {d : Nat} {ls : Lo} {st : List Va} {σ : Sg} {Q : Rs → Sg → Prop} : Wx d 83 115 ls st σ Q ↔ Li (lget ls 4) (fun z => Wx d 83 118 (lset ls 4 (vi (z + 1))) st σ Q) := u_iinc d83_115 (by decide)
theorem d83_118 : decode (mB 83) 118 = .ok (.goto (-41), 3) := by decide +kernel
theorem u83_118 {d : Nat} {ls : Lo} {st : List Va} {σ : Sg} {Q : Rs → Sg → Prop} : Wx d 83 118 ls st σ Q ↔ Wx d 83 77 ls st σ Q := u_goto d83_118 (by decide)
theorem d83_121 : decode (mB 83) 121 = .ok (.aload_n 0, 1) := by decide +kernel
theorem u83_121 {d : Nat} {ls : Lo} {st : List Va} {σ : Sg} {Q : Rs → Sg → Prop} : Wx d 83 121 ls st σ Q ↔ Lr (lget ls 0) (fun z => Wx d 83 122 ls (.inr (.inl z) :: st) σ Q) := u_aload_n d83_121
theorem d83_122 : decode (mB 83) 122 = .ok (.getfield 108, 3) := by decide +kernel
theorem u83_122 {d : Nat} {ls : Lo} {st : List Va} {σ : Sg} {Q : Rs → Sg → Prop} {g j : Nat} : Wx d 83 122 ls (vr g j :: st) σ Q ↔ isO g j 7 ∧ Wx d 83 125 ls (fvv σ g j 0 :: st) σ Q := u_get (w := (7, 0)) d83_122 rfl
theorem d83_125 : decode (mB 83) 125 = .ok (.ifCond .eq 5, 3) := by decide +kernel
theorem u83_125 {d : Nat} {ls : Lo} {st : List Va} {σ : Sg} {Q : Rs → Sg → Prop} {a : Int} (h : -2147483648 ≤ a ∧ a ≤ 2147483647) : Wx d 83 125 ls (vi a :: st) σ Q ↔ if a = 0 then Wx d 83 130 ls st σ Q else Wx d 83 128 ls st σ Q := u_ifeq d83_125 (by decide) h
theorem d83_128 : decode (mB 83) 128 = .ok (.iconst 0, 1) := by decide +kernel
theorem u83_128 {d : Nat} {ls : Lo} {st : List Va} {σ : Sg} {Q : Rs → Sg → Prop} : Wx d 83 128 ls st σ Q ↔ Wx d 83 129 ls (vi 0 :: st) σ Q := u_iconst d83_128
theorem d83_129 : decode (mB 83) 129 = .ok (.ireturn, 1) := by decide +kernel
theorem u83_129 {d : Nat} {ls : Lo} {σ : Sg} {Q : Rs → Sg → Prop} {z : Int} : Wx d 83 129 ls [vi z] σ Q ↔ Q (.inl (some (vi z))) σ := u_iret d83_129 rfl
theorem d83_130 : decode (mB 83) 130 = .ok (.aload_n 0, 1) := by decide +kernel
theorem u83_130 {d : Nat} {ls : Lo} {st : List Va} {σ : Sg} {Q : Rs → Sg → Prop} : Wx d 83 130 ls st σ Q ↔ Lr (lget ls 0) (fun z => Wx d 83 131 ls (.inr (.inl z) :: st) σ Q) := u_aload_n d83_130
theorem d83_131 : decode (mB 83) 131 = .ok (.getfield 38, 3) := by decide +kernel
theorem u83_131 {d : Nat} {ls : Lo} {st : List Va} {σ : Sg} {Q : Rs → Sg → Prop} {g j : Nat} : Wx d 83 131 ls (vr g j :: st) σ Q ↔ isO g j 7 ∧ Wx d 83 134 ls (fvv σ g j 12 :: st) σ Q := u_get (w := (7, 12)) d83_131 rfl
theorem d83_134 : decode (mB 83) 134 = .ok (.iconst 3, 1) := by decide +kernel
theorem u83_134 {d : Nat} {ls : Lo} {st : List Va} {σ : Sg} {Q : Rs → Sg → Prop} : Wx d 83 134 ls st σ Q ↔ Wx d 83 135 ls (vi 3 :: st) σ Q := u_iconst d83_134
theorem d83_135 : decode (mB 83) 135 = .ok (.iload_n 1, 1) := by decide +kernel
theorem u83_135 {d : Nat} {ls : Lo} {st : List Va} {σ : Sg} {Q : Rs → Sg → Prop} : Wx d 83 135 ls st σ Q ↔ Li (lget ls 1) (fun z => Wx d 83 136 ls (vi z :: st) σ Q) := u_iload_n d83_135
theorem d83_136 : decode (mB 83) 136 = .ok (.imul, 1) := by decide +kernel
theorem u83_136 {d : Nat} {ls : Lo} {st : List Va} {σ : Sg} {Q : Rs → Sg → Prop} {a b : Int} : Wx d 83 136 ls (vi b :: vi a :: st) σ Q ↔ Wx d 83 137 ls (vi (a * b) :: st) σ Q := u_imul d83_136
theorem d83_137 : decode (mB 83) 137 = .ok (.aload_n 0, 1) := by decide +kernel
theorem u83_137 {d : Nat} {ls : Lo} {st : List Va} {σ : Sg} {Q : Rs → Sg → Prop} : Wx d 83 137 ls st σ Q ↔ Lr (lget ls 0) (fun z => Wx d 83 138 ls (.inr (.inl z) :: st) σ Q) := u_aload_n d83_137
theorem d83_138 : decode (mB 83) 138 = .ok (.getfield 35, 3) := by decide +kernel
theorem u83_138 {d : Nat} {ls : Lo} {st : List Va} {σ : Sg} {Q : Rs → Sg → Prop} {g j : Nat} : Wx d 83 138 ls (vr g j :: st) σ Q ↔ isO g j 7 ∧ Wx d 83 141 ls (fvv σ g j 11 :: st) σ Q := u_get (w := (7, 11)) d83_138 rfl
theorem d83_141 : decode (mB 83) 141 = .ok (.iload_n 1, 1) := by decide +kernel
theorem u83_141 {d : Nat} {ls : Lo} {st : List Va} {σ : Sg} {Q : Rs → Sg → Prop} : Wx d 83 141 ls st σ Q ↔ Li (lget ls 1) (fun z => Wx d 83 142 ls (vi z :: st) σ Q) := u_iload_n d83_141
theorem d83_142 : decode (mB 83) 142 = .ok (.iaload, 1) := by decide +kernel
theorem u83_142 {d : Nat} {ls : Lo} {st : List Va} {σ : Sg} {Q : Rs → Sg → Prop} {z : Int} {g j : Nat} : Wx d 83 142 ls (vi z :: vr g j :: st) σ Q ↔ On (ial σ g j z) (fun x => Wx d 83 143 ls (vi x :: st) σ Q) := u_iald d83_142
theorem d83_143 : decode (mB 83) 143 = .ok (.iadd, 1) := by decide +kernel
theorem u83_143 {d : Nat} {ls : Lo} {st : List Va} {σ : Sg} {Q : Rs → Sg → Prop} {a b : Int} : Wx d 83 143 ls (vi b :: vi a :: st) σ Q ↔ Wx d 83 144 ls (vi (a + b) :: st) σ Q := u_iadd d83_143
theorem d83_144 : decode (mB 83) 144 = .ok (.iload_n 2, 1) := by decide +kernel
theorem u83_144 {d : Nat} {ls : Lo} {st : List Va} {σ : Sg} {Q : Rs → Sg → Prop} : Wx d 83 144 ls st σ Q ↔ Li (lget ls 2) (fun z => Wx d 83 145 ls (vi z :: st) σ Q) := u_iload_n d83_144
theorem d83_145 : decode (mB 83) 145 = .ok (.iastore, 1) := by decide +kernel
theorem u83_145 {d : Nat} {ls : Lo} {st : List Va} {σ : Sg} {Q : Rs → Sg → Prop} {x z : Int} {g j : Nat} : Wx d 83 145 ls (vi x :: vi z :: vr g j :: st) σ Q ↔ isA g j 0 z ∧ Wx d 83 146 ls st (up σ g j z.toNat x) Q := u_iast d83_145
theorem d83_146 : decode (mB 83) 146 = .ok (.aload_n 0, 1) := by decide +kernel
theorem u83_146 {d : Nat} {ls : Lo} {st : List Va} {σ : Sg} {Q : Rs → Sg → Prop} : Wx d 83 146 ls st σ Q ↔ Lr (lget ls 0) (fun z => Wx d 83 147 ls (.inr (.inl z) :: st) σ Q) := u_aload_n d83_146
theorem d83_147 : decode (mB 83) 147 = .ok (.getfield 41, 3) := by decide +kernel
theorem u83_147 {d : Nat} {ls : Lo} {st : List Va} {σ : Sg} {Q : Rs → Sg → Prop} {g j : Nat} : Wx d 83 147 ls (vr g j :: st) σ Q ↔ isO g j 7 ∧ Wx d 83 150 ls (fvv σ g j 13 :: st) σ Q := u_get (w := (7, 13)) d83_147 rfl
theorem d83_150 : decode (mB 83) 150 = .ok (.iconst 3, 1) := by decide +kernel
theorem u83_150 {d : Nat} {ls : Lo} {st : List Va} {σ : Sg} {Q : Rs → Sg → Prop} : Wx d 83 150 ls st σ Q ↔ Wx d 83 151 ls (vi 3 :: st) σ Q := u_iconst d83_150
theorem d83_151 : decode (mB 83) 151 = .ok (.iload_n 1, 1) := by decide +kernel
theorem u83_151 {d : Nat} {ls : Lo} {st : List Va} {σ : Sg} {Q : Rs → Sg → Prop} : Wx d 83 151 ls st σ Q ↔ Li (lget ls 1) (fun z => Wx d 83 152 ls (vi z :: st) σ Q) := u_iload_n d83_151
theorem d83_152 : decode (mB 83) 152 = .ok (.imul, 1) := by decide +kernel
theorem u83_152 {d : Nat} {ls : Lo} {st : List Va} {σ : Sg} {Q : Rs → Sg → Prop} {a b : Int} : Wx d 83 152 ls (vi b :: vi a :: st) σ Q ↔ Wx d 83 153 ls (vi (a * b) :: st) σ Q := u_imul d83_152
theorem d83_153 : decode (mB 83) 153 = .ok (.aload_n 0, 1) := by decide +kernel
theorem u83_153 {d : Nat} {ls : Lo} {st : List Va} {σ : Sg} {Q : Rs → Sg → Prop} : Wx d 83 153 ls st σ Q ↔ Lr (lget ls 0) (fun z => Wx d 83 154 ls (.inr (.inl z) :: st) σ Q) := u_aload_n d83_153
theorem d83_154 : decode (mB 83) 154 = .ok (.getfield 35, 3) := by decide +kernel
theorem u83_154 {d : Nat} {ls : Lo} {st : List Va} {σ : Sg} {Q : Rs → Sg → Prop} {g j : Nat} : Wx d 83 154 ls (vr g j :: st) σ Q ↔ isO g j 7 ∧ Wx d 83 157 ls (fvv σ g j 11 :: st) σ Q := u_get (w := (7, 11)) d83_154 rfl
theorem d83_157 : decode (mB 83) 157 = .ok (.iload_n 1, 1) := by decide +kernel
theorem u83_157 {d : Nat} {ls : Lo} {st : List Va} {σ : Sg} {Q : Rs → Sg → Prop} : Wx d 83 157 ls st σ Q ↔ Li (lget ls 1) (fun z => Wx d 83 158 ls (vi z :: st) σ Q) := u_iload_n d83_157
theorem d83_158 : decode (mB 83) 158 = .ok (.iaload, 1) := by decide +kernel
theorem u83_158 {d : Nat} {ls : Lo} {st : List Va} {σ : Sg} {Q : Rs → Sg → Prop} {z : Int} {g j : Nat} : Wx d 83 158 ls (vi z :: vr g j :: st) σ Q ↔ On (ial σ g j z) (fun x => Wx d 83 159 ls (vi x :: st) σ Q) := u_iald d83_158
theorem d83_159 : decode (mB 83) 159 = .ok (.iadd, 1) := by decide +kernel
theorem u83_159 {d : Nat} {ls : Lo} {st : List Va} {σ : Sg} {Q : Rs → Sg → Prop} {a b : Int} : Wx d 83 159 ls (vi b :: vi a :: st) σ Q ↔ Wx d 83 160 ls (vi (a + b) :: st) σ Q := u_iadd d83_159
theorem d83_160 : decode (mB 83) 160 = .ok (.iload_n 3, 1) := by decide +kernel
theorem u83_160 {d : Nat} {ls : Lo} {st : List Va} {σ : Sg} {Q : Rs → Sg → Prop} : Wx d 83 160 ls st σ Q ↔ Li (lget ls 3) (fun z => Wx d 83 161 ls (vi z :: st) σ Q) := u_iload_n d83_160
theorem d83_161 : decode (mB 83) 161 = .ok (.iastore, 1) := by decide +kernel
theorem u83_161 {d : Nat} {ls : Lo} {st : List Va} {σ : Sg} {Q : Rs → Sg → Prop} {x z : Int} {g j : Nat} : Wx d 83 161 ls (vi x :: vi z :: vr g j :: st) σ Q ↔ isA g j 0 z ∧ Wx d 83 162 ls st (up σ g j z.toNat x) Q := u_iast d83_161
theorem d83_162 : decode (mB 83) 162 = .ok (.aload_n 0, 1) := by decide +kernel
theorem u83_162 {d : Nat} {ls : Lo} {st : List Va} {σ : Sg} {Q : Rs → Sg → Prop} : Wx d 83 162 ls st σ Q ↔ Lr (lget ls 0) (fun z => Wx d 83 163 ls (.inr (.inl z) :: st) σ Q) := u_aload_n d83_162
theorem d83_163 : decode (mB 83) 163 = .ok (.getfield 35, 3) := by decide +kernel
theorem u83_163 {d : Nat} {ls : Lo} {st : List Va} {σ : Sg} {Q : Rs → Sg → Prop} {g j : Nat} : Wx d 83 163 ls (vr g j :: st) σ Q ↔ isO g j 7 ∧ Wx d 83 166 ls (fvv σ g j 11 :: st) σ Q := u_get (w := (7, 11)) d83_163 rfl
theorem d83_166 : decode (mB 83) 166 = .ok (.iload_n 1, 1) := by decide +kernel
theorem u83_166 {d : Nat} {ls : Lo} {st : List Va} {σ : Sg} {Q : Rs → Sg → Prop} : Wx d 83 166 ls st σ Q ↔ Li (lget ls 1) (fun z => Wx d 83 167 ls (vi z :: st) σ Q) := u_iload_n d83_166
theorem d83_167 : decode (mB 83) 167 = .ok (.dup2, 1) := by decide +kernel
theorem u83_167 {d : Nat} {ls : Lo} {st : List Va} {σ : Sg} {Q : Rs → Sg → Prop} {b : Int} {g j : Nat} : Wx d 83 167 ls (vi b :: vr g j :: st) σ Q ↔ Wx d 83 168 ls (vi b :: vr g j :: vi b :: vr g j :: st) σ Q := u_dup2 d83_167
theorem d83_168 : decode (mB 83) 168 = .ok (.iaload, 1) := by decide +kernel
theorem u83_168 {d : Nat} {ls : Lo} {st : List Va} {σ : Sg} {Q : Rs → Sg → Prop} {z : Int} {g j : Nat} : Wx d 83 168 ls (vi z :: vr g j :: st) σ Q ↔ On (ial σ g j z) (fun x => Wx d 83 169 ls (vi x :: st) σ Q) := u_iald d83_168
theorem d83_169 : decode (mB 83) 169 = .ok (.iconst 1, 1) := by decide +kernel
theorem u83_169 {d : Nat} {ls : Lo} {st : List Va} {σ : Sg} {Q : Rs → Sg → Prop} : Wx d 83 169 ls st σ Q ↔ Wx d 83 170 ls (vi 1 :: st) σ Q := u_iconst d83_169
theorem d83_170 : decode (mB 83) 170 = .ok (.iadd, 1) := by decide +kernel
theorem u83_170 {d : Nat} {ls : Lo} {st : List Va} {σ : Sg} {Q : Rs → Sg → Prop} {a b : Int} : Wx d 83 170 ls (vi b :: vi a :: st) σ Q ↔ Wx d 83 171 ls (vi (a + b) :: st) σ Q := u_iadd d83_170
theorem d83_171 : decode (mB 83) 171 = .ok (.iastore, 1) := by decide +kernel
theorem u83_171 {d : Nat} {ls : Lo} {st : List Va} {σ : Sg} {Q : Rs → Sg → Prop} {x z : Int} {g j : Nat} : Wx d 83 171 ls (vi x :: vi z :: vr g j :: st) σ Q ↔ isA g j 0 z ∧ Wx d 83 172 ls st (up σ g j z.toNat x) Q := u_iast d83_171
theorem d83_172 : decode (mB 83) 172 = .ok (.aload_n 0, 1) := by decide +kernel
theorem u83_172 {d : Nat} {ls : Lo} {st : List Va} {σ : Sg} {Q : Rs → Sg → Prop} : Wx d 83 172 ls st σ Q ↔ Lr (lget ls 0) (fun z => Wx d 83 173 ls (.inr (.inl z) :: st) σ Q) := u_aload_n d83_172
theorem d83_173 : decode (mB 83) 173 = .ok (.iconst 0, 1) := by decide +kernel
theorem u83_173 {d : Nat} {ls : Lo} {st : List Va} {σ : Sg} {Q : Rs → Sg → Prop} : Wx d 83 173 ls st σ Q ↔ Wx d 83 174 ls (vi 0 :: st) σ Q := u_iconst d83_173
theorem d83_174 : decode (mB 83) 174 = .ok (.putfield 129, 3) := by decide +kernel
theorem u83_174 {d : Nat} {ls : Lo} {st : List Va} {σ : Sg} {Q : Rs → Sg → Prop} {z : Int} {g j : Nat} : Wx d 83 174 ls (vi z :: vr g j :: st) σ Q ↔ (isO g j 7 ∧ rf g j 32 = none ∧ (z = 0 ∨ z = 1)) ∧ Wx d 83 177 ls st (up σ g j 32 z) Q := u_putz (w := (7, 32)) d83_174 rfl rfl rfl
theorem d83_177 : decode (mB 83) 177 = .ok (.aload_n 0, 1) := by decide +kernel
theorem u83_177 {d : Nat} {ls : Lo} {st : List Va} {σ : Sg} {Q : Rs → Sg → Prop} : Wx d 83 177 ls st σ Q ↔ Lr (lget ls 0) (fun z => Wx d 83 178 ls (.inr (.inl z) :: st) σ Q) := u_aload_n d83_177
theorem d83_178 : decode (mB 83) 178 = .ok (.getfield 35, 3) := by decide +kernel
theorem u83_178 {d : Nat} {ls : Lo} {st : List Va} {σ : Sg} {Q : Rs → Sg → Prop} {g j : Nat} : Wx d 83 178 ls (vr g j :: st) σ Q ↔ isO g j 7 ∧ Wx d 83 181 ls (fvv σ g j 11 :: st) σ Q := u_get (w := (7, 11)) d83_178 rfl
theorem d83_181 : decode (mB 83) 181 = .ok (.iload_n 1, 1) := by decide +kernel
theorem u83_181 {d : Nat} {ls : Lo} {st : List Va} {σ : Sg} {Q : Rs → Sg → Prop} : Wx d 83 181 ls st σ Q ↔ Li (lget ls 1) (fun z => Wx d 83 182 ls (vi z :: st) σ Q) := u_iload_n d83_181
theorem d83_182 : decode (mB 83) 182 = .ok (.iaload, 1) := by decide +kernel
theorem u83_182 {d : Nat} {ls : Lo} {st : List Va} {σ : Sg} {Q : Rs → Sg → Prop} {z : Int} {g j : Nat} : Wx d 83 182 ls (vi z :: vr g j :: st) σ Q ↔ On (ial σ g j z) (fun x => Wx d 83 183 ls (vi x :: st) σ Q) := u_iald d83_182
theorem d83_183 : decode (mB 83) 183 = .ok (.ireturn, 1) := by decide +kernel
theorem u83_183 {d : Nat} {ls : Lo} {σ : Sg} {Q : Rs → Sg → Prop} {z : Int} : Wx d 83 183 ls [vi z] σ Q ↔ Q (.inl (some (vi z))) σ := u_iret d83_183 rfl
/-! 84: FiguredBassModel.written(II)I -/
theorem d84_0 : decode (mB 84) 0 = .ok (.iconst 0, 1) := by decide +kernel
theorem u84_0 {d : Nat} {ls : Lo} {st : List Va} {σ : Sg} {Q : Rs → Sg → Prop} : Wx d 84 0 ls st σ Q ↔ Wx d 84 1 ls (vi 0 :: st) σ Q := u_iconst d84_0
theorem d84_1 : decode (mB 84) 1 = .ok (.istore_n 3, 1) := by decide +kernel
theorem u84_1 {d : Nat} {ls : Lo} {st : List Va} {σ : Sg} {Q : Rs → Sg → Prop} {z : Int} : Wx d 84 1 ls (vi z :: st) σ Q ↔ Wx d 84 2 (lset ls 3 (vi z)) st σ Q := u_istore_n d84_1 (by decide)
theorem d84_2 : decode (mB 84) 2 = .ok (.iload_n 3, 1) := by decide +kernel
theorem u84_2 {d : Nat} {ls : Lo} {st : List Va} {σ : Sg} {Q : Rs → Sg → Prop} : Wx d 84 2 ls st σ Q ↔ Li (lget ls 3) (fun z => Wx d 84 3 ls (vi z :: st) σ Q) := u_iload_n d84_2
theorem d84_3 : decode (mB 84) 3 = .ok (.aload_n 0, 1) := by decide +kernel
theorem u84_3 {d : Nat} {ls : Lo} {st : List Va} {σ : Sg} {Q : Rs → Sg → Prop} : Wx d 84 3 ls st σ Q ↔ Lr (lget ls 0) (fun z => Wx d 84 4 ls (.inr (.inl z) :: st) σ Q) := u_aload_n d84_3
theorem d84_4 : decode (mB 84) 4 = .ok (.getfield 35, 3) := by decide +kernel
theorem u84_4 {d : Nat} {ls : Lo} {st : List Va} {σ : Sg} {Q : Rs → Sg → Prop} {g j : Nat} : Wx d 84 4 ls (vr g j :: st) σ Q ↔ isO g j 7 ∧ Wx d 84 7 ls (fvv σ g j 11 :: st) σ Q := u_get (w := (7, 11)) d84_4 rfl
theorem d84_7 : decode (mB 84) 7 = .ok (.iload_n 1, 1) := by decide +kernel
theorem u84_7 {d : Nat} {ls : Lo} {st : List Va} {σ : Sg} {Q : Rs → Sg → Prop} : Wx d 84 7 ls st σ Q ↔ Li (lget ls 1) (fun z => Wx d 84 8 ls (vi z :: st) σ Q) := u_iload_n d84_7
theorem d84_8 : decode (mB 84) 8 = .ok (.iaload, 1) := by decide +kernel
theorem u84_8 {d : Nat} {ls : Lo} {st : List Va} {σ : Sg} {Q : Rs → Sg → Prop} {z : Int} {g j : Nat} : Wx d 84 8 ls (vi z :: vr g j :: st) σ Q ↔ On (ial σ g j z) (fun x => Wx d 84 9 ls (vi x :: st) σ Q) := u_iald d84_8
theorem d84_9 : decode (mB 84) 9 = .ok (.if_icmp .ge 34, 3) := by decide +kernel
theorem u84_9 {d : Nat} {ls : Lo} {st : List Va} {σ : Sg} {Q : Rs → Sg → Prop} {a b : Int} (h : -2147483648 ≤ a ∧ a ≤ 2147483647) (h2 : -2147483648 ≤ b ∧ b ≤ 2147483647) : Wx d 84 9 ls (vi b :: vi a :: st) σ Q ↔ if b ≤ a then Wx d 84 43 ls st σ Q else Wx d 84 12 ls st σ Q := u_icge d84_9 (by decide) h h2
theorem d84_12 : decode (mB 84) 12 = .ok (.aload_n 0, 1) := by decide +kernel
theorem u84_12 {d : Nat} {ls : Lo} {st : List Va} {σ : Sg} {Q : Rs → Sg → Prop} : Wx d 84 12 ls st σ Q ↔ Lr (lget ls 0) (fun z => Wx d 84 13 ls (.inr (.inl z) :: st) σ Q) := u_aload_n d84_12
theorem d84_13 : decode (mB 84) 13 = .ok (.getfield 38, 3) := by decide +kernel
theorem u84_13 {d : Nat} {ls : Lo} {st : List Va} {σ : Sg} {Q : Rs → Sg → Prop} {g j : Nat} : Wx d 84 13 ls (vr g j :: st) σ Q ↔ isO g j 7 ∧ Wx d 84 16 ls (fvv σ g j 12 :: st) σ Q := u_get (w := (7, 12)) d84_13 rfl
theorem d84_16 : decode (mB 84) 16 = .ok (.iconst 3, 1) := by decide +kernel
theorem u84_16 {d : Nat} {ls : Lo} {st : List Va} {σ : Sg} {Q : Rs → Sg → Prop} : Wx d 84 16 ls st σ Q ↔ Wx d 84 17 ls (vi 3 :: st) σ Q := u_iconst d84_16
theorem d84_17 : decode (mB 84) 17 = .ok (.iload_n 1, 1) := by decide +kernel
theorem u84_17 {d : Nat} {ls : Lo} {st : List Va} {σ : Sg} {Q : Rs → Sg → Prop} : Wx d 84 17 ls st σ Q ↔ Li (lget ls 1) (fun z => Wx d 84 18 ls (vi z :: st) σ Q) := u_iload_n d84_17
theorem d84_18 : decode (mB 84) 18 = .ok (.imul, 1) := by decide +kernel
theorem u84_18 {d : Nat} {ls : Lo} {st : List Va} {σ : Sg} {Q : Rs → Sg → Prop} {a b : Int} : Wx d 84 18 ls (vi b :: vi a :: st) σ Q ↔ Wx d 84 19 ls (vi (a * b) :: st) σ Q := u_imul d84_18
theorem d84_19 : decode (mB 84) 19 = .ok (.iload_n 3, 1) := by decide +kernel
theorem u84_19 {d : Nat} {ls : Lo} {st : List Va} {σ : Sg} {Q : Rs → Sg → Prop} : Wx d 84 19 ls st σ Q ↔ Li (lget ls 3) (fun z => Wx d 84 20 ls (vi z :: st) σ Q) := u_iload_n d84_19
theorem d84_20 : decode (mB 84) 20 = .ok (.iadd, 1) := by decide +kernel
theorem u84_20 {d : Nat} {ls : Lo} {st : List Va} {σ : Sg} {Q : Rs → Sg → Prop} {a b : Int} : Wx d 84 20 ls (vi b :: vi a :: st) σ Q ↔ Wx d 84 21 ls (vi (a + b) :: st) σ Q := u_iadd d84_20
theorem d84_21 : decode (mB 84) 21 = .ok (.iaload, 1) := by decide +kernel
theorem u84_21 {d : Nat} {ls : Lo} {st : List Va} {σ : Sg} {Q : Rs → Sg → Prop} {z : Int} {g j : Nat} : Wx d 84 21 ls (vi z :: vr g j :: st) σ Q ↔ On (ial σ g j z) (fun x => Wx d 84 22 ls (vi x :: st) σ Q) := u_iald d84_21
theorem d84_22 : decode (mB 84) 22 = .ok (.iload_n 2, 1) := by decide +kernel
theorem u84_22 {d : Nat} {ls : Lo} {st : List Va} {σ : Sg} {Q : Rs → Sg → Prop} : Wx d 84 22 ls st σ Q ↔ Li (lget ls 2) (fun z => Wx d 84 23 ls (vi z :: st) σ Q) := u_iload_n d84_22
theorem d84_23 : decode (mB 84) 23 = .ok (.if_icmp .ne 14, 3) := by decide +kernel
theorem u84_23 {d : Nat} {ls : Lo} {st : List Va} {σ : Sg} {Q : Rs → Sg → Prop} {a b : Int} (h : -2147483648 ≤ a ∧ a ≤ 2147483647) (h2 : -2147483648 ≤ b ∧ b ≤ 2147483647) : Wx d 84 23 ls (vi b :: vi a :: st) σ Q ↔ if ¬ a = b then Wx d 84 37 ls st σ Q else Wx d 84 26 ls st σ Q := u_icne d84_23 (by decide) h h2
theorem d84_26 : decode (mB 84) 26 = .ok (.aload_n 0, 1) := by decide +kernel
theorem u84_26 {d : Nat} {ls : Lo} {st : List Va} {σ : Sg} {Q : Rs → Sg → Prop} : Wx d 84 26 ls st σ Q ↔ Lr (lget ls 0) (fun z => Wx d 84 27 ls (.inr (.inl z) :: st) σ Q) := u_aload_n d84_26
theorem d84_27 : decode (mB 84) 27 = .ok (.getfield 41, 3) := by decide +kernel
theorem u84_27 {d : Nat} {ls : Lo} {st : List Va} {σ : Sg} {Q : Rs → Sg → Prop} {g j : Nat} : Wx d 84 27 ls (vr g j :: st) σ Q ↔ isO g j 7 ∧ Wx d 84 30 ls (fvv σ g j 13 :: st) σ Q := u_get (w := (7, 13)) d84_27 rfl
theorem d84_30 : decode (mB 84) 30 = .ok (.iconst 3, 1) := by decide +kernel
theorem u84_30 {d : Nat} {ls : Lo} {st : List Va} {σ : Sg} {Q : Rs → Sg → Prop} : Wx d 84 30 ls st σ Q ↔ Wx d 84 31 ls (vi 3 :: st) σ Q := u_iconst d84_30
theorem d84_31 : decode (mB 84) 31 = .ok (.iload_n 1, 1) := by decide +kernel
theorem u84_31 {d : Nat} {ls : Lo} {st : List Va} {σ : Sg} {Q : Rs → Sg → Prop} : Wx d 84 31 ls st σ Q ↔ Li (lget ls 1) (fun z => Wx d 84 32 ls (vi z :: st) σ Q) := u_iload_n d84_31
theorem d84_32 : decode (mB 84) 32 = .ok (.imul, 1) := by decide +kernel
theorem u84_32 {d : Nat} {ls : Lo} {st : List Va} {σ : Sg} {Q : Rs → Sg → Prop} {a b : Int} : Wx d 84 32 ls (vi b :: vi a :: st) σ Q ↔ Wx d 84 33 ls (vi (a * b) :: st) σ Q := u_imul d84_32
theorem d84_33 : decode (mB 84) 33 = .ok (.iload_n 3, 1) := by decide +kernel
theorem u84_33 {d : Nat} {ls : Lo} {st : List Va} {σ : Sg} {Q : Rs → Sg → Prop} : Wx d 84 33 ls st σ Q ↔ Li (lget ls 3) (fun z => Wx d 84 34 ls (vi z :: st) σ Q) := u_iload_n d84_33
theorem d84_34 : decode (mB 84) 34 = .ok (.iadd, 1) := by decide +kernel
theorem u84_34 {d : Nat} {ls : Lo} {st : List Va} {σ : Sg} {Q : Rs → Sg → Prop} {a b : Int} : Wx d 84 34 ls (vi b :: vi a :: st) σ Q ↔ Wx d 84 35 ls (vi (a + b) :: st) σ Q := u_iadd d84_34
theorem d84_35 : decode (mB 84) 35 = .ok (.iaload, 1) := by decide +kernel
theorem u84_35 {d : Nat} {ls : Lo} {st : List Va} {σ : Sg} {Q : Rs → Sg → Prop} {z : Int} {g j : Nat} : Wx d 84 35 ls (vi z :: vr g j :: st) σ Q ↔ On (ial σ g j z) (fun x => Wx d 84 36 ls (vi x :: st) σ Q) := u_iald d84_35
theorem d84_36 : decode (mB 84) 36 = .ok (.ireturn, 1) := by decide +kernel
theorem u84_36 {d : Nat} {ls : Lo} {σ : Sg} {Q : Rs → Sg → Prop} {z : Int} : Wx d 84 36 ls [vi z] σ Q ↔ Q (.inl (some (vi z))) σ := u_iret d84_36 rfl
theorem d84_37 : decode (mB 84) 37 = .ok (.iinc 3 1, 3) := by decide +kernel
theorem u84_37 {d : Nat} {ls : Lo} {st : List Va} {σ : Sg} {Q : Rs → Sg → Prop} : Wx d 84 37 ls st σ Q ↔ Li (lget ls 3) (fun z => Wx d 84 40 (lset ls 3 (vi (z + 1))) st σ Q) := u_iinc d84_37 (by decide)
theorem d84_40 : decode (mB 84) 40 = .ok (.goto (-38), 3) := by decide +kernel
theorem u84_40 {d : Nat} {ls : Lo} {st : List Va} {σ : Sg} {Q : Rs → Sg → Prop} : Wx d 84 40 ls st σ Q ↔ Wx d 84 2 ls st σ Q := u_goto d84_40 (by decide)
theorem d84_43 : decode (mB 84) 43 = .ok (.iconst (-1), 1) := by decide +kernel
theorem u84_43 {d : Nat} {ls : Lo} {st : List Va} {σ : Sg} {Q : Rs → Sg → Prop} : Wx d 84 43 ls st σ Q ↔ Wx d 84 44 ls (vi (-1) :: st) σ Q := u_iconst d84_43
theorem d84_44 : decode (mB 84) 44 = .ok (.ireturn, 1) := by decide +kernel
theorem u84_44 {d : Nat} {ls : Lo} {σ : Sg} {Q : Rs → Sg → Prop} {z : Int} : Wx d 84 44 ls [vi z] σ Q ↔ Q (.inl (some (vi z))) σ := u_iret d84_44 rfl
/-! 85: FiguredBassModel.put(II)V -/
theorem d85_0 : decode (mB 85) 0 = .ok (.aload_n 0, 1) := by decide +kernel
theorem u85_0 {d : Nat} {ls : Lo} {st : List Va} {σ : Sg} {Q : Rs → Sg → Prop} : Wx d 85 0 ls st σ Q ↔ Lr (lget ls 0) (fun z => Wx d 85 1 ls (.inr (.inl z) :: st) σ Q) := u_aload_n d85_0
theorem d85_1 : decode (mB 85) 1 = .ok (.iload_n 1, 1) := by decide +kernel
theorem u85_1 {d : Nat} {ls : Lo} {st : List Va} {σ : Sg} {Q : Rs → Sg → Prop} : Wx d 85 1 ls st σ Q ↔ Li (lget ls 1) (fun z => Wx d 85 2 ls (vi z :: st) σ Q) := u_iload_n d85_1
theorem d85_2 : decode (mB 85) 2 = .ok (.iload_n 2, 1) := by decide +kernel
theorem u85_2 {d : Nat} {ls : Lo} {st : List Va} {σ : Sg} {Q : Rs → Sg → Prop} : Wx d 85 2 ls st σ Q ↔ Li (lget ls 2) (fun z => Wx d 85 3 ls (vi z :: st) σ Q) := u_iload_n d85_2
theorem d85_3 : decode (mB 85) 3 = .ok (.invokevirtual 136, 3) := by decide +kernel
theorem u85_3 {d : Nat} {ls : Lo} {st : List Va} {σ : Sg} {Q : Rs → Sg → Prop} {g j : Nat} {a1 a2 : Va} : Wx (d + 1) 85 3 ls (a2 :: a1 :: vr g j :: st) σ Q ↔ (isO g j 7 ∧ st.length ≤ 4 ∧ nlg [a2, a1] = true) ∧ Wm d 84 [vr g j, a1, a2] σ (Kc (d + 1) 85 6 ls st Q) := u_inv2 d85_3 rfl rfl rfl
theorem d85_6 : decode (mB 85) 6 = .ok (.istore_n 3, 1) := by decide +kernel
theorem u85_6 {d : Nat} {ls : Lo} {st : List Va} {σ : Sg} {Q : Rs → Sg → Prop} {z : Int} : Wx d 85 6 ls (vi z :: st) σ Q ↔ Wx d 85 7 (lset ls 3 (vi z)) st σ Q := u_istore_n d85_6 (by decide)
theorem d85_7 : decode (mB 85) 7 = .ok (.aload_n 0, 1) := by decide +kernel
theorem u85_7 {d : Nat} {ls : Lo} {st : List Va} {σ : Sg} {Q : Rs → Sg → Prop} : Wx d 85 7 ls st σ Q ↔ Lr (lget ls 0) (fun z => Wx d 85 8 ls (.inr (.inl z) :: st) σ Q) := u_aload_n d85_7
theorem d85_8 : decode (mB 85) 8 = .ok (.getfield 44, 3) := by decide +kernel
theorem u85_8 {d : Nat} {ls : Lo} {st : List Va} {σ : Sg} {Q : Rs → Sg → Prop} {g j : Nat} : Wx d 85 8 ls (vr g j :: st) σ Q ↔ isO g j 7 ∧ Wx d 85 11 ls (fvv σ g j 15 :: st) σ Q := u_get (w := (7, 15)) d85_8 rfl
theorem d85_11 : decode (mB 85) 11 = .ok (.aload_n 0, 1) := by decide +kernel
theorem u85_11 {d : Nat} {ls : Lo} {st : List Va} {σ : Sg} {Q : Rs → Sg → Prop} : Wx d 85 11 ls st σ Q ↔ Lr (lget ls 0) (fun z => Wx d 85 12 ls (.inr (.inl z) :: st) σ Q) := u_aload_n d85_11
theorem d85_12 : decode (mB 85) 12 = .ok (.getfield 139, 3) := by decide +kernel
theorem u85_12 {d : Nat} {ls : Lo} {st : List Va} {σ : Sg} {Q : Rs → Sg → Prop} {g j : Nat} : Wx d 85 12 ls (vr g j :: st) σ Q ↔ isO g j 7 ∧ Wx d 85 15 ls (fvv σ g j 14 :: st) σ Q := u_get (w := (7, 14)) d85_12 rfl
theorem d85_15 : decode (mB 85) 15 = .ok (.iload_n 2, 1) := by decide +kernel
theorem u85_15 {d : Nat} {ls : Lo} {st : List Va} {σ : Sg} {Q : Rs → Sg → Prop} : Wx d 85 15 ls st σ Q ↔ Li (lget ls 2) (fun z => Wx d 85 16 ls (vi z :: st) σ Q) := u_iload_n d85_15
theorem d85_16 : decode (mB 85) 16 = .ok (.iastore, 1) := by decide +kernel
theorem u85_16 {d : Nat} {ls : Lo} {st : List Va} {σ : Sg} {Q : Rs → Sg → Prop} {x z : Int} {g j : Nat} : Wx d 85 16 ls (vi x :: vi z :: vr g j :: st) σ Q ↔ isA g j 0 z ∧ Wx d 85 17 ls st (up σ g j z.toNat x) Q := u_iast d85_16
theorem d85_17 : decode (mB 85) 17 = .ok (.aload_n 0, 1) := by decide +kernel
theorem u85_17 {d : Nat} {ls : Lo} {st : List Va} {σ : Sg} {Q : Rs → Sg → Prop} : Wx d 85 17 ls st σ Q ↔ Lr (lget ls 0) (fun z => Wx d 85 18 ls (.inr (.inl z) :: st) σ Q) := u_aload_n d85_17
theorem d85_18 : decode (mB 85) 18 = .ok (.getfield 47, 3) := by decide +kernel
theorem u85_18 {d : Nat} {ls : Lo} {st : List Va} {σ : Sg} {Q : Rs → Sg → Prop} {g j : Nat} : Wx d 85 18 ls (vr g j :: st) σ Q ↔ isO g j 7 ∧ Wx d 85 21 ls (fvv σ g j 16 :: st) σ Q := u_get (w := (7, 16)) d85_18 rfl
theorem d85_21 : decode (mB 85) 21 = .ok (.aload_n 0, 1) := by decide +kernel
theorem u85_21 {d : Nat} {ls : Lo} {st : List Va} {σ : Sg} {Q : Rs → Sg → Prop} : Wx d 85 21 ls st σ Q ↔ Lr (lget ls 0) (fun z => Wx d 85 22 ls (.inr (.inl z) :: st) σ Q) := u_aload_n d85_21
theorem d85_22 : decode (mB 85) 22 = .ok (.getfield 139, 3) := by decide +kernel
theorem u85_22 {d : Nat} {ls : Lo} {st : List Va} {σ : Sg} {Q : Rs → Sg → Prop} {g j : Nat} : Wx d 85 22 ls (vr g j :: st) σ Q ↔ isO g j 7 ∧ Wx d 85 25 ls (fvv σ g j 14 :: st) σ Q := u_get (w := (7, 14)) d85_22 rfl
theorem d85_25 : decode (mB 85) 25 = .ok (.iload_n 3, 1) := by decide +kernel
theorem u85_25 {d : Nat} {ls : Lo} {st : List Va} {σ : Sg} {Q : Rs → Sg → Prop} : Wx d 85 25 ls st σ Q ↔ Li (lget ls 3) (fun z => Wx d 85 26 ls (vi z :: st) σ Q) := u_iload_n d85_25
theorem d85_26 : decode (mB 85) 26 = .ok (.ifCond .ge 7, 3) := by decide +kernel
theorem u85_26 {d : Nat} {ls : Lo} {st : List Va} {σ : Sg} {Q : Rs → Sg → Prop} {a : Int} (h : -2147483648 ≤ a ∧ a ≤ 2147483647) : Wx d 85 26 ls (vi a :: st) σ Q ↔ if 0 ≤ a then Wx d 85 33 ls st σ Q else Wx d 85 29 ls st σ Q := u_ifge d85_26 (by decide) h
theorem d85_29 : decode (mB 85) 29 = .ok (.iconst 0, 1) := by decide +kernel
theorem u85_29 {d : Nat} {ls : Lo} {st : List Va} {σ : Sg} {Q : Rs → Sg → Prop} : Wx d 85 29 ls st σ Q ↔ Wx d 85 30 ls (vi 0 :: st) σ Q := u_iconst d85_29
theorem d85_30 : decode (mB 85) 30 = .ok (.goto 4, 3) := by decide +kernel
theorem u85_30 {d : Nat} {ls : Lo} {st : List Va} {σ : Sg} {Q : Rs → Sg → Prop} : Wx d 85 30 ls st σ Q ↔ Wx d 85 34 ls st σ Q := u_goto d85_30 (by decide)
theorem d85_33 : decode (mB 85) 33 = .ok (.iload_n 3, 1) := by decide +kernel
theorem u85_33 {d : Nat} {ls : Lo} {st : List Va} {σ : Sg} {Q : Rs → Sg → Prop} : Wx d 85 33 ls st σ Q ↔ Li (lget ls 3) (fun z => Wx d 85 34 ls (vi z :: st) σ Q) := u_iload_n d85_33
theorem d85_34 : decode (mB 85) 34 = .ok (.iastore, 1) := by decide +kernel
theorem u85_34 {d : Nat} {ls : Lo} {st : List Va} {σ : Sg} {Q : Rs → Sg → Prop} {x z : Int} {g j : Nat} : Wx d 85 34 ls (vi x :: vi z :: vr g j :: st) σ Q ↔ isA g j 0 z ∧ Wx d 85 35 ls st (up σ g j z.toNat x) Q := u_iast d85_34
theorem d85_35 : decode (mB 85) 35 = .ok (.aload_n 0, 1) := by decide +kernel
theorem u85_35 {d : Nat} {ls : Lo} {st : List Va} {σ : Sg} {Q : Rs → Sg → Prop} : Wx d 85 35 ls st σ Q ↔ Lr (lget ls 0) (fun z => Wx d 85 36 ls (.inr (.inl z) :: st) σ Q) := u_aload_n d85_35
theorem d85_36 : decode (mB 85) 36 = .ok (.dup, 1) := by decide +kernel
theorem u85_36i {d : Nat} {ls : Lo} {st : List Va} {σ : Sg} {Q : Rs → Sg → Prop} {a : Int} : Wx d 85 36 ls (vi a :: st) σ Q ↔ Wx d 85 37 ls (vi a :: vi a :: st) σ Q := u_dupi d85_36
theorem u85_36r {d : Nat} {ls : Lo} {st : List Va} {σ : Sg} {Q : Rs → Sg → Prop} {g j : Nat} : Wx d 85 36 ls (vr g j :: st) σ Q ↔ Wx d 85 37 ls (vr g j :: vr g j :: st) σ Q := u_dupr d85_36
theorem d85_37 : decode (mB 85) 37 = .ok (.getfield 139, 3) := by decide +kernel
theorem u85_37 {d : Nat} {ls : Lo} {st : List Va} {σ : Sg} {Q : Rs → Sg → Prop} {g j : Nat} : Wx d 85 37 ls (vr g j :: st) σ Q ↔ isO g j 7 ∧ Wx d 85 40 ls (fvv σ g j 14 :: st) σ Q := u_get (w := (7, 14)) d85_37 rfl
theorem d85_40 : decode (mB 85) 40 = .ok (.iconst 1, 1) := by decide +kernel
theorem u85_40 {d : Nat} {ls : Lo} {st : List Va} {σ : Sg} {Q : Rs → Sg → Prop} : Wx d 85 40 ls st σ Q ↔ Wx d 85 41 ls (vi 1 :: st) σ Q := u_iconst d85_40
theorem d85_41 : decode (mB 85) 41 = .ok (.iadd, 1) := by decide +kernel
theorem u85_41 {d : Nat} {ls : Lo} {st : List Va} {σ : Sg} {Q : Rs → Sg → Prop} {a b : Int} : Wx d 85 41 ls (vi b :: vi a :: st) σ Q ↔ Wx d 85 42 ls (vi (a + b) :: st) σ Q := u_iadd d85_41
theorem d85_42 : decode (mB 85) 42 = .ok (.putfield 139, 3) := by decide +kernel
theorem u85_42 {d : Nat} {ls : Lo} {st : List Va} {σ : Sg} {Q : Rs → Sg → Prop} {z : Int} {g j : Nat} : Wx d 85 42 ls (vi z :: vr g j :: st) σ Q ↔ (isO g j 7 ∧ rf g j 14 = none) ∧ Wx d 85 45 ls st (up σ g j 14 z) Q := u_put (w := (7, 14)) d85_42 rfl rfl rfl
theorem d85_45 : decode (mB 85) 45 = .ok (.return_, 1) := by decide +kernel
theorem u85_45 {d : Nat} {ls : Lo} {σ : Sg} {Q : Rs → Sg → Prop} : Wx d 85 45 ls [] σ Q ↔ Q (.inl none) σ := u_vret d85_45 rfl
/-! 86: FiguredBassModel.putAll(IIII)V -/
theorem d86_0 : decode (mB 86) 0 = .ok (.aload_n 0, 1) := by decide +kernel
theorem u86_0 {d : Nat} {ls : Lo} {st : List Va} {σ : Sg} {Q : Rs → Sg → Prop} : Wx d 86 0 ls st σ Q ↔ Lr (lget ls 0) (fun z => Wx d 86 1 ls (.inr (.inl z) :: st) σ Q) := u_aload_n d86_0
theorem d86_1 : decode (mB 86) 1 = .ok (.iconst 0, 1) := by decide +kernel
theorem u86_1 {d : Nat} {ls : Lo} {st : List Va} {σ : Sg} {Q : Rs → Sg → Prop} : Wx d 86 1 ls st σ Q ↔ Wx d 86 2 ls (vi 0 :: st) σ Q := u_iconst d86_1
theorem d86_2 : decode (mB 86) 2 = .ok (.putfield 139, 3) := by decide +kernel
theorem u86_2 {d : Nat} {ls : Lo} {st : List Va} {σ : Sg} {Q : Rs → Sg → Prop} {z : Int} {g j : Nat} : Wx d 86 2 ls (vi z :: vr g j :: st) σ Q ↔ (isO g j 7 ∧ rf g j 14 = none) ∧ Wx d 86 5 ls st (up σ g j 14 z) Q := u_put (w := (7, 14)) d86_2 rfl rfl rfl
theorem d86_5 : decode (mB 86) 5 = .ok (.aload_n 0, 1) := by decide +kernel
theorem u86_5 {d : Nat} {ls : Lo} {st : List Va} {σ : Sg} {Q : Rs → Sg → Prop} : Wx d 86 5 ls st σ Q ↔ Lr (lget ls 0) (fun z => Wx d 86 6 ls (.inr (.inl z) :: st) σ Q) := u_aload_n d86_5
theorem d86_6 : decode (mB 86) 6 = .ok (.iload_n 1, 1) := by decide +kernel
theorem u86_6 {d : Nat} {ls : Lo} {st : List Va} {σ : Sg} {Q : Rs → Sg → Prop} : Wx d 86 6 ls st σ Q ↔ Li (lget ls 1) (fun z => Wx d 86 7 ls (vi z :: st) σ Q) := u_iload_n d86_6
theorem d86_7 : decode (mB 86) 7 = .ok (.iload_n 2, 1) := by decide +kernel
theorem u86_7 {d : Nat} {ls : Lo} {st : List Va} {σ : Sg} {Q : Rs → Sg → Prop} : Wx d 86 7 ls st σ Q ↔ Li (lget ls 2) (fun z => Wx d 86 8 ls (vi z :: st) σ Q) := u_iload_n d86_7
theorem d86_8 : decode (mB 86) 8 = .ok (.invokevirtual 142, 3) := by decide +kernel
theorem u86_8 {d : Nat} {ls : Lo} {st : List Va} {σ : Sg} {Q : Rs → Sg → Prop} {g j : Nat} {a1 a2 : Va} : Wx (d + 1) 86 8 ls (a2 :: a1 :: vr g j :: st) σ Q ↔ (isO g j 7 ∧ st.length ≤ 4 ∧ nlg [a2, a1] = true) ∧ Wm d 85 [vr g j, a1, a2] σ (Kc (d + 1) 86 11 ls st Q) := u_inv2 d86_8 rfl rfl rfl
theorem d86_11 : decode (mB 86) 11 = .ok (.aload_n 0, 1) := by decide +kernel
theorem u86_11 {d : Nat} {ls : Lo} {st : List Va} {σ : Sg} {Q : Rs → Sg → Prop} : Wx d 86 11 ls st σ Q ↔ Lr (lget ls 0) (fun z => Wx d 86 12 ls (.inr (.inl z) :: st) σ Q) := u_aload_n d86_11
theorem d86_12 : decode (mB 86) 12 = .ok (.iload_n 1, 1) := by decide +kernel
theorem u86_12 {d : Nat} {ls : Lo} {st : List Va} {σ : Sg} {Q : Rs → Sg → Prop} : Wx d 86 12 ls st σ Q ↔ Li (lget ls 1) (fun z => Wx d 86 13 ls (vi z :: st) σ Q) := u_iload_n d86_12
theorem d86_13 : decode (mB 86) 13 = .ok (.iload_n 3, 1) := by decide +kernel
theorem u86_13 {d : Nat} {ls : Lo} {st : List Va} {σ : Sg} {Q : Rs → Sg → Prop} : Wx d 86 13 ls st σ Q ↔ Li (lget ls 3) (fun z => Wx d 86 14 ls (vi z :: st) σ Q) := u_iload_n d86_13
theorem d86_14 : decode (mB 86) 14 = .ok (.invokevirtual 142, 3) := by decide +kernel
theorem u86_14 {d : Nat} {ls : Lo} {st : List Va} {σ : Sg} {Q : Rs → Sg → Prop} {g j : Nat} {a1 a2 : Va} : Wx (d + 1) 86 14 ls (a2 :: a1 :: vr g j :: st) σ Q ↔ (isO g j 7 ∧ st.length ≤ 4 ∧ nlg [a2, a1] = true) ∧ Wm d 85 [vr g j, a1, a2] σ (Kc (d + 1) 86 17 ls st Q) := u_inv2 d86_14 rfl rfl rfl
theorem d86_17 : decode (mB 86) 17 = .ok (.iload 4, 2) := by decide +kernel
theorem u86_17 {d : Nat} {ls : Lo} {st : List Va} {σ : Sg} {Q : Rs → Sg → Prop} : Wx d 86 17 ls st σ Q ↔ Li (lget ls 4) (fun z => Wx d 86 19 ls (vi z :: st) σ Q) := u_iload d86_17
theorem d86_19 : decode (mB 86) 19 = .ok (.ifCond .le 10, 3) := by decide +kernel
theorem u86_19 {d : Nat} {ls : Lo} {st : List Va} {σ : Sg} {Q : Rs → Sg → Prop} {a : Int} (h : -2147483648 ≤ a ∧ a ≤ 2147483647) : Wx d 86 19 ls (vi a :: st) σ Q ↔ if a ≤ 0 then Wx d 86 29 ls st σ Q else Wx d 86 22 ls st σ Q := u_ifle d86_19 (by decide) h
theorem d86_22 : decode (mB 86) 22 = .ok (.aload_n 0, 1) := by decide +kernel
theorem u86_22 {d : Nat} {ls : Lo} {st : List Va} {σ : Sg} {Q : Rs → Sg → Prop} : Wx d 86 22 ls st σ Q ↔ Lr (lget ls 0) (fun z => Wx d 86 23 ls (.inr (.inl z) :: st) σ Q) := u_aload_n d86_22
theorem d86_23 : decode (mB 86) 23 = .ok (.iload_n 1, 1) := by decide +kernel
theorem u86_23 {d : Nat} {ls : Lo} {st : List Va} {σ : Sg} {Q : Rs → Sg → Prop} : Wx d 86 23 ls st σ Q ↔ Li (lget ls 1) (fun z => Wx d 86 24 ls (vi z :: st) σ Q) := u_iload_n d86_23
theorem d86_24 : decode (mB 86) 24 = .ok (.iload 4, 2) := by decide +kernel
theorem u86_24 {d : Nat} {ls : Lo} {st : List Va} {σ : Sg} {Q : Rs → Sg → Prop} : Wx d 86 24 ls st σ Q ↔ Li (lget ls 4) (fun z => Wx d 86 26 ls (vi z :: st) σ Q) := u_iload d86_24
theorem d86_26 : decode (mB 86) 26 = .ok (.invokevirtual 142, 3) := by decide +kernel
theorem u86_26 {d : Nat} {ls : Lo} {st : List Va} {σ : Sg} {Q : Rs → Sg → Prop} {g j : Nat} {a1 a2 : Va} : Wx (d + 1) 86 26 ls (a2 :: a1 :: vr g j :: st) σ Q ↔ (isO g j 7 ∧ st.length ≤ 4 ∧ nlg [a2, a1] = true) ∧ Wm d 85 [vr g j, a1, a2] σ (Kc (d + 1) 86 29 ls st Q) := u_inv2 d86_26 rfl rfl rfl
theorem d86_29 : decode (mB 86) 29 = .ok (.return_, 1) := by decide +kernel
theorem u86_29 {d : Nat} {ls : Lo} {σ : Sg} {Q : Rs → Sg → Prop} : Wx d 86 29 ls [] σ Q ↔ Q (.inl none) σ := u_vret d86_29 rfl
/-! 87: FiguredBassModel.digitsOf(I)I -/
theorem d87_0 : decode (mB 87) 0 = .ok (.iconst 0, 1) := by decide +kernel
theorem u87_0 {d : Nat} {ls : Lo} {st : List Va} {σ : Sg} {Q : Rs → Sg → Prop} : Wx d 87 0 ls st σ Q ↔ Wx d 87 1 ls (vi 0 :: st) σ Q := u_iconst d87_0
theorem d87_1 : decode (mB 87) 1 = .ok (.istore_n 2, 1) := by decide +kernel
theorem u87_1 {d : Nat} {ls : Lo} {st : List Va} {σ : Sg} {Q : Rs → Sg → Prop} {z : Int} : Wx d 87 1 ls (vi z :: st) σ Q ↔ Wx d 87 2 (lset ls 2 (vi z)) st σ Q := u_istore_n d87_1 (by decide)
theorem d87_2 : decode (mB 87) 2 = .ok (.iconst 0, 1) := by decide +kernel
theorem u87_2 {d : Nat} {ls : Lo} {st : List Va} {σ : Sg} {Q : Rs → Sg → Prop} : Wx d 87 2 ls st σ Q ↔ Wx d 87 3 ls (vi 0 :: st) σ Q := u_iconst d87_2
theorem d87_3 : decode (mB 87) 3 = .ok (.istore_n 3, 1) := by decide +kernel
theorem u87_3 {d : Nat} {ls : Lo} {st : List Va} {σ : Sg} {Q : Rs → Sg → Prop} {z : Int} : Wx d 87 3 ls (vi z :: st) σ Q ↔ Wx d 87 4 (lset ls 3 (vi z)) st σ Q := u_istore_n d87_3 (by decide)
theorem d87_4 : decode (mB 87) 4 = .ok (.iload_n 3, 1) := by decide +kernel
theorem u87_4 {d : Nat} {ls : Lo} {st : List Va} {σ : Sg} {Q : Rs → Sg → Prop} : Wx d 87 4 ls st σ Q ↔ Li (lget ls 3) (fun z => Wx d 87 5 ls (vi z :: st) σ Q) := u_iload_n d87_4
theorem d87_5 : decode (mB 87) 5 = .ok (.aload_n 0, 1) := by decide +kernel
theorem u87_5 {d : Nat} {ls : Lo} {st : List Va} {σ : Sg} {Q : Rs → Sg → Prop} : Wx d 87 5 ls st σ Q ↔ Lr (lget ls 0) (fun z => Wx d 87 6 ls (.inr (.inl z) :: st) σ Q) := u_aload_n d87_5
theorem d87_6 : decode (mB 87) 6 = .ok (.getfield 35, 3) := by decide +kernel
theorem u87_6 {d : Nat} {ls : Lo} {st : List Va} {σ : Sg} {Q : Rs → Sg → Prop} {g j : Nat} : Wx d 87 6 ls (vr g j :: st) σ Q ↔ isO g j 7 ∧ Wx d 87 9 ls (fvv σ g j 11 :: st) σ Q := u_get (w := (7, 11)) d87_6 rfl
theorem d87_9 : decode (mB 87) 9 = .ok (.iload_n 1, 1) := by decide +kernel
theorem u87_9 {d : Nat} {ls : Lo} {st : List Va} {σ : Sg} {Q : Rs → Sg → Prop} : Wx d 87 9 ls st σ Q ↔ Li (lget ls 1) (fun z => Wx d 87 10 ls (vi z :: st) σ Q) := u_iload_n d87_9
theorem d87_10 : decode (mB 87) 10 = .ok (.iaload, 1) := by decide +kernel
theorem u87_10 {d : Nat} {ls : Lo} {st : List Va} {σ : Sg} {Q : Rs → Sg → Prop} {z : Int} {g j : Nat} : Wx d 87 10 ls (vi z :: vr g j :: st) σ Q ↔ On (ial σ g j z) (fun x => Wx d 87 11 ls (vi x :: st) σ Q) := u_iald d87_10
theorem d87_11 : decode (mB 87) 11 = .ok (.if_icmp .ge 25, 3) := by decide +kernel
theorem u87_11 {d : Nat} {ls : Lo} {st : List Va} {σ : Sg} {Q : Rs → Sg → Prop} {a b : Int} (h : -2147483648 ≤ a ∧ a ≤ 2147483647) (h2 : -2147483648 ≤ b ∧ b ≤ 2147483647) : Wx d 87 11 ls (vi b :: vi a :: st) σ Q ↔ if b ≤ a then Wx d 87 36 ls st σ Q else Wx d 87 14 ls st σ Q := u_icge d87_11 (by decide) h h2
theorem d87_14 : decode (mB 87) 14 = .ok (.bipush 10, 2) := by decide +kernel
theorem u87_14 {d : Nat} {ls : Lo} {st : List Va} {σ : Sg} {Q : Rs → Sg → Prop} : Wx d 87 14 ls st σ Q ↔ Wx d 87 16 ls (vi 10 :: st) σ Q := u_bipush d87_14 (by decide)
theorem d87_16 : decode (mB 87) 16 = .ok (.iload_n 2, 1) := by decide +kernel
theorem u87_16 {d : Nat} {ls : Lo} {st : List Va} {σ : Sg} {Q : Rs → Sg → Prop} : Wx d 87 16 ls st σ Q ↔ Li (lget ls 2) (fun z => Wx d 87 17 ls (vi z :: st) σ Q) := u_iload_n d87_16
theorem d87_17 : decode (mB 87) 17 = .ok (.imul, 1) := by decide +kernel
theorem u87_17 {d : Nat} {ls : Lo} {st : List Va} {σ : Sg} {Q : Rs → Sg → Prop} {a b : Int} : Wx d 87 17 ls (vi b :: vi a :: st) σ Q ↔ Wx d 87 18 ls (vi (a * b) :: st) σ Q := u_imul d87_17
theorem d87_18 : decode (mB 87) 18 = .ok (.aload_n 0, 1) := by decide +kernel
theorem u87_18 {d : Nat} {ls : Lo} {st : List Va} {σ : Sg} {Q : Rs → Sg → Prop} : Wx d 87 18 ls st σ Q ↔ Lr (lget ls 0) (fun z => Wx d 87 19 ls (.inr (.inl z) :: st) σ Q) := u_aload_n d87_18
theorem d87_19 : decode (mB 87) 19 = .ok (.getfield 38, 3) := by decide +kernel
theorem u87_19 {d : Nat} {ls : Lo} {st : List Va} {σ : Sg} {Q : Rs → Sg → Prop} {g j : Nat} : Wx d 87 19 ls (vr g j :: st) σ Q ↔ isO g j 7 ∧ Wx d 87 22 ls (fvv σ g j 12 :: st) σ Q := u_get (w := (7, 12)) d87_19 rfl
theorem d87_22 : decode (mB 87) 22 = .ok (.iconst 3, 1) := by decide +kernel
theorem u87_22 {d : Nat} {ls : Lo} {st : List Va} {σ : Sg} {Q : Rs → Sg → Prop} : Wx d 87 22 ls st σ Q ↔ Wx d 87 23 ls (vi 3 :: st) σ Q := u_iconst d87_22
theorem d87_23 : decode (mB 87) 23 = .ok (.iload_n 1, 1) := by decide +kernel
theorem u87_23 {d : Nat} {ls : Lo} {st : List Va} {σ : Sg} {Q : Rs → Sg → Prop} : Wx d 87 23 ls st σ Q ↔ Li (lget ls 1) (fun z => Wx d 87 24 ls (vi z :: st) σ Q) := u_iload_n d87_23
theorem d87_24 : decode (mB 87) 24 = .ok (.imul, 1) := by decide +kernel
theorem u87_24 {d : Nat} {ls : Lo} {st : List Va} {σ : Sg} {Q : Rs → Sg → Prop} {a b : Int} : Wx d 87 24 ls (vi b :: vi a :: st) σ Q ↔ Wx d 87 25 ls (vi (a * b) :: st) σ Q := u_imul d87_24
theorem d87_25 : decode (mB 87) 25 = .ok (.iload_n 3, 1) := by decide +kernel
theorem u87_25 {d : Nat} {ls : Lo} {st : List Va} {σ : Sg} {Q : Rs → Sg → Prop} : Wx d 87 25 ls st σ Q ↔ Li (lget ls 3) (fun z => Wx d 87 26 ls (vi z :: st) σ Q) := u_iload_n d87_25
theorem d87_26 : decode (mB 87) 26 = .ok (.iadd, 1) := by decide +kernel
theorem u87_26 {d : Nat} {ls : Lo} {st : List Va} {σ : Sg} {Q : Rs → Sg → Prop} {a b : Int} : Wx d 87 26 ls (vi b :: vi a :: st) σ Q ↔ Wx d 87 27 ls (vi (a + b) :: st) σ Q := u_iadd d87_26
theorem d87_27 : decode (mB 87) 27 = .ok (.iaload, 1) := by decide +kernel
theorem u87_27 {d : Nat} {ls : Lo} {st : List Va} {σ : Sg} {Q : Rs → Sg → Prop} {z : Int} {g j : Nat} : Wx d 87 27 ls (vi z :: vr g j :: st) σ Q ↔ On (ial σ g j z) (fun x => Wx d 87 28 ls (vi x :: st) σ Q) := u_iald d87_27
theorem d87_28 : decode (mB 87) 28 = .ok (.iadd, 1) := by decide +kernel
theorem u87_28 {d : Nat} {ls : Lo} {st : List Va} {σ : Sg} {Q : Rs → Sg → Prop} {a b : Int} : Wx d 87 28 ls (vi b :: vi a :: st) σ Q ↔ Wx d 87 29 ls (vi (a + b) :: st) σ Q := u_iadd d87_28
theorem d87_29 : decode (mB 87) 29 = .ok (.istore_n 2, 1) := by decide +kernel
theorem u87_29 {d : Nat} {ls : Lo} {st : List Va} {σ : Sg} {Q : Rs → Sg → Prop} {z : Int} : Wx d 87 29 ls (vi z :: st) σ Q ↔ Wx d 87 30 (lset ls 2 (vi z)) st σ Q := u_istore_n d87_29 (by decide)
theorem d87_30 : decode (mB 87) 30 = .ok (.iinc 3 1, 3) := by decide +kernel
theorem u87_30 {d : Nat} {ls : Lo} {st : List Va} {σ : Sg} {Q : Rs → Sg → Prop} : Wx d 87 30 ls st σ Q ↔ Li (lget ls 3) (fun z => Wx d 87 33 (lset ls 3 (vi (z + 1))) st σ Q) := u_iinc d87_30 (by decide)
theorem d87_33 : decode (mB 87) 33 = .ok (.goto (-29), 3) := by decide +kernel
theorem u87_33 {d : Nat} {ls : Lo} {st : List Va} {σ : Sg} {Q : Rs → Sg → Prop} : Wx d 87 33 ls st σ Q ↔ Wx d 87 4 ls st σ Q := u_goto d87_33 (by decide)
theorem d87_36 : decode (mB 87) 36 = .ok (.iload_n 2, 1) := by decide +kernel
theorem u87_36 {d : Nat} {ls : Lo} {st : List Va} {σ : Sg} {Q : Rs → Sg → Prop} : Wx d 87 36 ls st σ Q ↔ Li (lget ls 2) (fun z => Wx d 87 37 ls (vi z :: st) σ Q) := u_iload_n d87_36
theorem d87_37 : decode (mB 87) 37 = .ok (.ireturn, 1) := by decide +kernel
theorem u87_37 {d : Nat} {ls : Lo} {σ : Sg} {Q : Rs → Sg → Prop} {z : Int} : Wx d 87 37 ls [vi z] σ Q ↔ Q (.inl (some (vi z))) σ := u_iret d87_37 rfl
/-! 88: FiguredBassModel.unfold(I)V -/
theorem d88_0 : decode (mB 88) 0 = .ok (.aload_n 0, 1) := by decide +kernel
theorem u88_0 {d : Nat} {ls : Lo} {st : List Va} {σ : Sg} {Q : Rs → Sg → Prop} : Wx d 88 0 ls st σ Q ↔ Lr (lget ls 0) (fun z => Wx d 88 1 ls (.inr (.inl z) :: st) σ Q) := u_aload_n d88_0
theorem d88_1 : decode (mB 88) 1 = .ok (.iload_n 1, 1) := by decide +kernel
theorem u88_1 {d : Nat} {ls : Lo} {st : List Va} {σ : Sg} {Q : Rs → Sg → Prop} : Wx d 88 1 ls st σ Q ↔ Li (lget ls 1) (fun z => Wx d 88 2 ls (vi z :: st) σ Q) := u_iload_n d88_1
theorem d88_2 : decode (mB 88) 2 = .ok (.invokevirtual 146, 3) := by decide +kernel
theorem u88_2 {d : Nat} {ls : Lo} {st : List Va} {σ : Sg} {Q : Rs → Sg → Prop} {g j : Nat} {a1 : Va} : Wx (d + 1) 88 2 ls (a1 :: vr g j :: st) σ Q ↔ (isO g j 7 ∧ st.length ≤ 4 ∧ nlg [a1] = true) ∧ Wm d 87 [vr g j, a1] σ (Kc (d + 1) 88 5 ls st Q) := u_inv1 d88_2 rfl rfl rfl
theorem d88_5 : decode (mB 88) 5 = .ok (.lookupswitch 151 #[(0, 83), (2, 132), (3, 83), (4, 142), (6, 92), (7, 102), (42, 132), (43, 122), (65, 112)], 83) := by decide +kernel
theorem u88_5 {d : Nat} {ls : Lo} {st : List Va} {σ : Sg} {Q : Rs → Sg → Prop} {a : Int} {t : Nat} (h : -2147483648 ≤ a ∧ a ≤ 2147483647) (ht : (5 : Int) + Op.lookupswitch.offset [(0, 83), (2, 132), (3, 83), (4, 142), (6, 92), (7, 102), (42, 132), (43, 122), (65, 112)] 151 a = (t : Int)) : Wx d 88 5 ls (vi a :: st) σ Q ↔ Wx d 88 t ls st σ Q := u_lookup d88_5 (by decide) h ht
theorem d88_88 : decode (mB 88) 88 = .ok (.aload_n 0, 1) := by decide +kernel
theorem u88_88 {d : Nat} {ls : Lo} {st : List Va} {σ : Sg} {Q : Rs → Sg → Prop} : Wx d 88 88 ls st σ Q ↔ Lr (lget ls 0) (fun z => Wx d 88 89 ls (.inr (.inl z) :: st) σ Q) := u_aload_n d88_88
theorem d88_89 : decode (mB 88) 89 = .ok (.iload_n 1, 1) := by decide +kernel
theorem u88_89 {d : Nat} {ls : Lo} {st : List Va} {σ : Sg} {Q : Rs → Sg → Prop} : Wx d 88 89 ls st σ Q ↔ Li (lget ls 1) (fun z => Wx d 88 90 ls (vi z :: st) σ Q) := u_iload_n d88_89
theorem d88_90 : decode (mB 88) 90 = .ok (.iconst 5, 1) := by decide +kernel
theorem u88_90 {d : Nat} {ls : Lo} {st : List Va} {σ : Sg} {Q : Rs → Sg → Prop} : Wx d 88 90 ls st σ Q ↔ Wx d 88 91 ls (vi 5 :: st) σ Q := u_iconst d88_90
theorem d88_91 : decode (mB 88) 91 = .ok (.iconst 3, 1) := by decide +kernel
theorem u88_91 {d : Nat} {ls : Lo} {st : List Va} {σ : Sg} {Q : Rs → Sg → Prop} : Wx d 88 91 ls st σ Q ↔ Wx d 88 92 ls (vi 3 :: st) σ Q := u_iconst d88_91
theorem d88_92 : decode (mB 88) 92 = .ok (.iconst 0, 1) := by decide +kernel
theorem u88_92 {d : Nat} {ls : Lo} {st : List Va} {σ : Sg} {Q : Rs → Sg → Prop} : Wx d 88 92 ls st σ Q ↔ Wx d 88 93 ls (vi 0 :: st) σ Q := u_iconst d88_92
theorem d88_93 : decode (mB 88) 93 = .ok (.invokevirtual 149, 3) := by decide +kernel
theorem u88_93 {d : Nat} {ls : Lo} {st : List Va} {σ : Sg} {Q : Rs → Sg → Prop} {g j : Nat} {a1 a2 a3 a4 : Va} : Wx (d + 1) 88 93 ls (a4 :: a3 :: a2 :: a1 :: vr g j :: st) σ Q ↔ (isO g j 7 ∧ st.length ≤ 4 ∧ nlg [a4, a3, a2, a1] = true) ∧ Wm d 86 [vr g j, a1, a2, a3, a4] σ (Kc (d + 1) 88 96 ls st Q) := u_inv4 d88_93 rfl rfl rfl
theorem d88_96 : decode (mB 88) 96 = .ok (.return_, 1) := by decide +kernel
theorem u88_96 {d : Nat} {ls : Lo} {σ : Sg} {Q : Rs → Sg → Prop} : Wx d 88 96 ls [] σ Q ↔ Q (.inl none) σ := u_vret d88_96 rfl
theorem d88_97 : decode (mB 88) 97 = .ok (.aload_n 0, 1) := by decide +kernel
theorem u88_97 {d : Nat} {ls : Lo} {st : List Va} {σ : Sg} {Q : Rs → Sg → Prop} : Wx d 88 97 ls st σ Q ↔ Lr (lget ls 0) (fun z => Wx d 88 98 ls (.inr (.inl z) :: st) σ Q) := u_aload_n d88_97
theorem d88_98 : decode (mB 88) 98 = .ok (.iload_n 1, 1) := by decide +kernel
theorem u88_98 {d : Nat} {ls : Lo} {st : List Va} {σ : Sg} {Q : Rs → Sg → Prop} : Wx d 88 98 ls st σ Q ↔ Li (lget ls 1) (fun z => Wx d 88 99 ls (vi z :: st) σ Q) := u_iload_n d88_98
theorem d88_99 : decode (mB 88) 99 = .ok (.bipush 6, 2) := by decide +kernel
theorem u88_99 {d : Nat} {ls : Lo} {st : List Va} {σ : Sg} {Q : Rs → Sg → Prop} : Wx d 88 99 ls st σ Q ↔ Wx d 88 101 ls (vi 6 :: st) σ Q := u_bipush d88_99 (by decide)
theorem d88_101 : decode (mB 88) 101 = .ok (.iconst 3, 1) := by decide +kernel
theorem u88_101 {d : Nat} {ls : Lo} {st : List Va} {σ : Sg} {Q : Rs → Sg → Prop} : Wx d 88 101 ls st σ Q ↔ Wx d 88 102 ls (vi 3 :: st) σ Q := u_iconst d88_101
theorem d88_102 : decode (mB 88) 102 = .ok (.iconst 0, 1) := by decide +kernel
theorem u88_102 {d : Nat} {ls : Lo} {st : List Va} {σ : Sg} {Q : Rs → Sg → Prop} : Wx d 88 102 ls st σ Q ↔ Wx d 88 103 ls (vi 0 :: st) σ Q := u_iconst d88_102
theorem d88_103 : decode (mB 88) 103 = .ok (.invokevirtual 149, 3) := by decide +kernel
theorem u88_103 {d : Nat} {ls : Lo} {st : List Va} {σ : Sg} {Q : Rs → Sg → Prop} {g j : Nat} {a1 a2 a3 a4 : Va} : Wx (d + 1) 88 103 ls (a4 :: a3 :: a2 :: a1 :: vr g j :: st) σ Q ↔ (isO g j 7 ∧ st.length ≤ 4 ∧ nlg [a4, a3, a2, a1] = true) ∧ Wm d 86 [vr g j, a1, a2, a3, a4] σ (Kc (d + 1) 88 106 ls st Q) := u_inv4 d88_103 rfl rfl rfl
theorem d88_106 : decode (mB 88) 106 = .ok (.return_, 1) := by decide +kernel
theorem u88_106 {d : Nat} {ls : Lo} {σ : Sg} {Q : Rs → Sg → Prop} : Wx d 88 106 ls [] σ Q ↔ Q (.inl none) σ := u_vret d88_106 rfl
theorem d88_107 : decode (mB 88) 107 = .ok (.aload_n 0, 1) := by decide +kernel
theorem u88_107 {d : Nat} {ls : Lo} {st : List Va} {σ : Sg} {Q : Rs → Sg → Prop} : Wx d 88 107 ls st σ Q ↔ Lr (lget ls 0) (fun z => Wx d 88 108 ls (.inr (.inl z) :: st) σ Q) := u_aload_n d88_107
theorem d88_108 : decode (mB 88) 108 = .ok (.iload_n 1, 1) := by decide +kernel
theorem u88_108 {d : Nat} {ls : Lo} {st : List Va} {σ : Sg} {Q : Rs → Sg → Prop} : Wx d 88 108 ls st σ Q ↔ Li (lget ls 1) (fun z => Wx d 88 109 ls (vi z :: st) σ Q) := u_iload_n d88_108
theorem d88_109 : decode (mB 88) 109 = .ok (.bipush 7, 2) := by decide +kernel
theorem u88_109 {d : Nat} {ls : Lo} {st : List Va} {σ : Sg} {Q : Rs → Sg → Prop} : Wx d 88 109 ls st σ Q ↔ Wx d 88 111 ls (vi 7 :: st) σ Q := u_bipush d88_109 (by decide)
theorem d88_111 : decode (mB 88) 111 = .ok (.iconst 5, 1) := by decide +kernel
theorem u88_111 {d : Nat} {ls : Lo} {st : List Va} {σ : Sg} {Q : Rs → Sg → Prop} : Wx d 88 111 ls st σ Q ↔ Wx d 88 112 ls (vi 5 :: st) σ Q := u_iconst d88_111
theorem d88_112 : decode (mB 88) 112 = .ok (.iconst 3, 1) := by decide +kernel
theorem u88_112 {d : Nat} {ls : Lo} {st : List Va} {σ : Sg} {Q : Rs → Sg → Prop} : Wx d 88 112 ls st σ Q ↔ Wx d 88 113 ls (vi 3 :: st) σ Q := u_iconst d88_112
theorem d88_113 : decode (mB 88) 113 = .ok (.invokevirtual 149, 3) := by decide +kernel
theorem u88_113 {d : Nat} {ls : Lo} {st : List Va} {σ : Sg} {Q : Rs → Sg → Prop} {g j : Nat} {a1 a2 a3 a4 : Va} : Wx (d + 1) 88 113 ls (a4 :: a3 :: a2 :: a1 :: vr g j :: st) σ Q ↔ (isO g j 7 ∧ st.length ≤ 4 ∧ nlg [a4, a3, a2, a1] = true) ∧ Wm d 86 [vr g j, a1, a2, a3, a4] σ (Kc (d + 1) 88 116 ls st Q) := u_inv4 d88_113 rfl rfl rfl
theorem d88_116 : decode (mB 88) 116 = .ok (.return_, 1) := by decide +kernel
theorem u88_116 {d : Nat} {ls : Lo} {σ : Sg} {Q : Rs → Sg → Prop} : Wx d 88 116 ls [] σ Q ↔ Q (.inl none) σ := u_vret d88_116 rfl
theorem d88_117 : decode (mB 88) 117 = .ok (.aload_n 0, 1) := by decide +kernel
theorem u88_117 {d : Nat} {ls : Lo} {st : List Va} {σ : Sg} {Q : Rs → Sg → Prop} : Wx d 88 117 ls st σ Q ↔ Lr (lget ls 0) (fun z => Wx d 88 118 ls (.inr (.inl z) :: st) σ Q) := u_aload_n d88_117
theorem d88_118 : decode (mB 88) 118 = .ok (.iload_n 1, 1) := by decide +kernel
theorem u88_118 {d : Nat} {ls : Lo} {st : List Va} {σ : Sg} {Q : Rs → Sg → Prop} : Wx d 88 118 ls st σ Q ↔ Li (lget ls 1) (fun z => Wx d 88 119 ls (vi z :: st) σ Q) := u_iload_n d88_118
theorem d88_119 : decode (mB 88) 119 = .ok (.bipush 6, 2) := by decide +kernel
theorem u88_119 {d : Nat} {ls : Lo} {st : List Va} {σ : Sg} {Q : Rs → Sg → Prop} : Wx d 88 119 ls st σ Q ↔ Wx d 88 121 ls (vi 6 :: st) σ Q := u_bipush d88_119 (by decide)
theorem d88_121 : decode (mB 88) 121 = .ok (.iconst 5, 1) := by decide +kernel
theorem u88_121 {d : Nat} {ls : Lo} {st : List Va} {σ : Sg} {Q : Rs → Sg → Prop} : Wx d 88 121 ls st σ Q ↔ Wx d 88 122 ls (vi 5 :: st) σ Q := u_iconst d88_121
theorem d88_122 : decode (mB 88) 122 = .ok (.iconst 3, 1) := by decide +kernel
theorem u88_122 {d : Nat} {ls : Lo} {st : List Va} {σ : Sg} {Q : Rs → Sg → Prop} : Wx d 88 122 ls st σ Q ↔ Wx d 88 123 ls (vi 3 :: st) σ Q := u_iconst d88_122
theorem d88_123 : decode (mB 88) 123 = .ok (.invokevirtual 149, 3) := by decide +kernel
theorem u88_123 {d : Nat} {ls : Lo} {st : List Va} {σ : Sg} {Q : Rs → Sg → Prop} {g j : Nat} {a1 a2 a3 a4 : Va} : Wx (d + 1) 88 123 ls (a4 :: a3 :: a2 :: a1 :: vr g j :: st) σ Q ↔ (isO g j 7 ∧ st.length ≤ 4 ∧ nlg [a4, a3, a2, a1] = true) ∧ Wm d 86 [vr g j, a1, a2, a3, a4] σ (Kc (d + 1) 88 126 ls st Q) := u_inv4 d88_123 rfl rfl rfl
theorem d88_126 : decode (mB 88) 126 = .ok (.return_, 1) := by decide +kernel
theorem u88_126 {d : Nat} {ls : Lo} {σ : Sg} {Q : Rs → Sg → Prop} : Wx d 88 126 ls [] σ Q ↔ Q (.inl none) σ := u_vret d88_126 rfl
theorem d88_127 : decode (mB 88) 127 = .ok (.aload_n 0, 1) := by decide +kernel
theorem u88_127 {d : Nat} {ls : Lo} {st : List Va} {σ : Sg} {Q : Rs → Sg → Prop} : Wx d 88 127 ls st σ Q ↔ Lr (lget ls 0) (fun z => Wx d 88 128 ls (.inr (.inl z) :: st) σ Q) := u_aload_n d88_127
theorem d88_128 : decode (mB 88) 128 = .ok (.iload_n 1, 1) := by decide +kernel
theorem u88_128 {d : Nat} {ls : Lo} {st : List Va} {σ : Sg} {Q : Rs → Sg → Prop} : Wx d 88 128 ls st σ Q ↔ Li (lget ls 1) (fun z => Wx d 88 129 ls (vi z :: st) σ Q) := u_iload_n d88_128
theorem d88_129 : decode (mB 88) 129 = .ok (.bipush 6, 2) := by decide +kernel
theorem u88_129 {d : Nat} {ls : Lo} {st : List Va} {σ : Sg} {Q : Rs → Sg → Prop} : Wx d 88 129 ls st σ Q ↔ Wx d 88 131 ls (vi 6 :: st) σ Q := u_bipush d88_129 (by decide)
theorem d88_131 : decode (mB 88) 131 = .ok (.iconst 4, 1) := by decide +kernel
theorem u88_131 {d : Nat} {ls : Lo} {st : List Va} {σ : Sg} {Q : Rs → Sg → Prop} : Wx d 88 131 ls st σ Q ↔ Wx d 88 132 ls (vi 4 :: st) σ Q := u_iconst d88_131
theorem d88_132 : decode (mB 88) 132 = .ok (.iconst 3, 1) := by decide +kernel
theorem u88_132 {d : Nat} {ls : Lo} {st : List Va} {σ : Sg} {Q : Rs → Sg → Prop} : Wx d 88 132 ls st σ Q ↔ Wx d 88 133 ls (vi 3 :: st) σ Q := u_iconst d88_132
theorem d88_133 : decode (mB 88) 133 = .ok (.invokevirtual 149, 3) := by decide +kernel
theorem u88_133 {d : Nat} {ls : Lo} {st : List Va} {σ : Sg} {Q : Rs → Sg → Prop} {g j : Nat} {a1 a2 a3 a4 : Va} : Wx (d + 1) 88 133 ls (a4 :: a3 :: a2 :: a1 :: vr g j :: st) σ Q ↔ (isO g j 7 ∧ st.length ≤ 4 ∧ nlg [a4, a3, a2, a1] = true) ∧ Wm d 86 [vr g j, a1, a2, a3, a4] σ (Kc (d + 1) 88 136 ls st Q) := u_inv4 d88_133 rfl rfl rfl
theorem d88_136 : decode (mB 88) 136 = .ok (.return_, 1) := by decide +kernel
theorem u88_136 {d : Nat} {ls : Lo} {σ : Sg} {Q : Rs → Sg → Prop} : Wx d 88 136 ls [] σ Q ↔ Q (.inl none) σ := u_vret d88_136 rfl
theorem d88_137 : decode (mB 88) 137 = .ok (.aload_n 0, 1) := by decide +kernel
theorem u88_137 {d : Nat} {ls : Lo} {st : List Va} {σ : Sg} {Q : Rs → Sg → Prop} : Wx d 88 137 ls st σ Q ↔ Lr (lget ls 0) (fun z => Wx d 88 138 ls (.inr (.inl z) :: st) σ Q) := u_aload_n d88_137
theorem d88_138 : decode (mB 88) 138 = .ok (.iload_n 1, 1) := by decide +kernel
theorem u88_138 {d : Nat} {ls : Lo} {st : List Va} {σ : Sg} {Q : Rs → Sg → Prop} : Wx d 88 138 ls st σ Q ↔ Li (lget ls 1) (fun z => Wx d 88 139 ls (vi z :: st) σ Q) := u_iload_n d88_138
theorem d88_139 : decode (mB 88) 139 = .ok (.bipush 6, 2) := by decide +kernel
theorem u88_139 {d : Nat} {ls : Lo} {st : List Va} {σ : Sg} {Q : Rs → Sg → Prop} : Wx d 88 139 ls st σ Q ↔ Wx d 88 141 ls (vi 6 :: st) σ Q := u_bipush d88_139 (by decide)
theorem d88_141 : decode (mB 88) 141 = .ok (.iconst 4, 1) := by decide +kernel
theorem u88_141 {d : Nat} {ls : Lo} {st : List Va} {σ : Sg} {Q : Rs → Sg → Prop} : Wx d 88 141 ls st σ Q ↔ Wx d 88 142 ls (vi 4 :: st) σ Q := u_iconst d88_141
theorem d88_142 : decode (mB 88) 142 = .ok (.iconst 2, 1) := by decide +kernel
theorem u88_142 {d : Nat} {ls : Lo} {st : List Va} {σ : Sg} {Q : Rs → Sg → Prop} : Wx d 88 142 ls st σ Q ↔ Wx d 88 143 ls (vi 2 :: st) σ Q := u_iconst d88_142
theorem d88_143 : decode (mB 88) 143 = .ok (.invokevirtual 149, 3) := by decide +kernel
theorem u88_143 {d : Nat} {ls : Lo} {st : List Va} {σ : Sg} {Q : Rs → Sg → Prop} {g j : Nat} {a1 a2 a3 a4 : Va} : Wx (d + 1) 88 143 ls (a4 :: a3 :: a2 :: a1 :: vr g j :: st) σ Q ↔ (isO g j 7 ∧ st.length ≤ 4 ∧ nlg [a4, a3, a2, a1] = true) ∧ Wm d 86 [vr g j, a1, a2, a3, a4] σ (Kc (d + 1) 88 146 ls st Q) := u_inv4 d88_143 rfl rfl rfl
theorem d88_146 : decode (mB 88) 146 = .ok (.return_, 1) := by decide +kernel
theorem u88_146 {d : Nat} {ls : Lo} {σ : Sg} {Q : Rs → Sg → Prop} : Wx d 88 146 ls [] σ Q ↔ Q (.inl none) σ := u_vret d88_146 rfl
theorem d88_147 : decode (mB 88) 147 = .ok (.aload_n 0, 1) := by decide +kernel
theorem u88_147 {d : Nat} {ls : Lo} {st : List Va} {σ : Sg} {Q : Rs → Sg → Prop} : Wx d 88 147 ls st σ Q ↔ Lr (lget ls 0) (fun z => Wx d 88 148 ls (.inr (.inl z) :: st) σ Q) := u_aload_n d88_147
theorem d88_148 : decode (mB 88) 148 = .ok (.iload_n 1, 1) := by decide +kernel
theorem u88_148 {d : Nat} {ls : Lo} {st : List Va} {σ : Sg} {Q : Rs → Sg → Prop} : Wx d 88 148 ls st σ Q ↔ Li (lget ls 1) (fun z => Wx d 88 149 ls (vi z :: st) σ Q) := u_iload_n d88_148
theorem d88_149 : decode (mB 88) 149 = .ok (.iconst 5, 1) := by decide +kernel
theorem u88_149 {d : Nat} {ls : Lo} {st : List Va} {σ : Sg} {Q : Rs → Sg → Prop} : Wx d 88 149 ls st σ Q ↔ Wx d 88 150 ls (vi 5 :: st) σ Q := u_iconst d88_149
theorem d88_150 : decode (mB 88) 150 = .ok (.iconst 4, 1) := by decide +kernel
theorem u88_150 {d : Nat} {ls : Lo} {st : List Va} {σ : Sg} {Q : Rs → Sg → Prop} : Wx d 88 150 ls st σ Q ↔ Wx d 88 151 ls (vi 4 :: st) σ Q := u_iconst d88_150
theorem d88_151 : decode (mB 88) 151 = .ok (.iconst 0, 1) := by decide +kernel
theorem u88_151 {d : Nat} {ls : Lo} {st : List Va} {σ : Sg} {Q : Rs → Sg → Prop} : Wx d 88 151 ls st σ Q ↔ Wx d 88 152 ls (vi 0 :: st) σ Q := u_iconst d88_151
theorem d88_152 : decode (mB 88) 152 = .ok (.invokevirtual 149, 3) := by decide +kernel
theorem u88_152 {d : Nat} {ls : Lo} {st : List Va} {σ : Sg} {Q : Rs → Sg → Prop} {g j : Nat} {a1 a2 a3 a4 : Va} : Wx (d + 1) 88 152 ls (a4 :: a3 :: a2 :: a1 :: vr g j :: st) σ Q ↔ (isO g j 7 ∧ st.length ≤ 4 ∧ nlg [a4, a3, a2, a1] = true) ∧ Wm d 86 [vr g j, a1, a2, a3, a4] σ (Kc (d + 1) 88 155 ls st Q) := u_inv4 d88_152 rfl rfl rfl
theorem d88_155 : decode (mB 88) 155 = .ok (.return_, 1) := by decide +kernel
theorem u88_155 {d : Nat} {ls : Lo} {σ : Sg} {Q : Rs → Sg → Prop} : Wx d 88 155 ls [] σ Q ↔ Q (.inl none) σ := u_vret d88_155 rfl
theorem d88_156 : decode (mB 88) 156 = .ok (.aload_n 0, 1) := by decide +kernel
theorem u88_156 {d : Nat} {ls : Lo} {st : List Va} {σ : Sg} {Q : Rs → Sg → Prop} : Wx d 88 156 ls st σ Q ↔ Lr (lget ls 0) (fun z => Wx d 88 157 ls (.inr (.inl z) :: st) σ Q) := u_aload_n d88_156
theorem d88_157 : decode (mB 88) 157 = .ok (.iconst 0, 1) := by decide +kernel
theorem u88_157 {d : Nat} {ls : Lo} {st : List Va} {σ : Sg} {Q : Rs → Sg → Prop} : Wx d 88 157 ls st σ Q ↔ Wx d 88 158 ls (vi 0 :: st) σ Q := u_iconst d88_157
theorem d88_158 : decode (mB 88) 158 = .ok (.putfield 139, 3) := by decide +kernel
theorem u88_158 {d : Nat} {ls : Lo} {st : List Va} {σ : Sg} {Q : Rs → Sg → Prop} {z : Int} {g j : Nat} : Wx d 88 158 ls (vi z :: vr g j :: st) σ Q ↔ (isO g j 7 ∧ rf g j 14 = none) ∧ Wx d 88 161 ls st (up σ g j 14 z) Q := u_put (w := (7, 14)) d88_158 rfl rfl rfl
theorem d88_161 : decode (mB 88) 161 = .ok (.iconst 0, 1) := by decide +kernel
theorem u88_161 {d : Nat} {ls : Lo} {st : List Va} {σ : Sg} {Q : Rs → Sg → Prop} : Wx d 88 161 ls st σ Q ↔ Wx d 88 162 ls (vi 0 :: st) σ Q := u_iconst d88_161
theorem d88_162 : decode (mB 88) 162 = .ok (.istore_n 2, 1) := by decide +kernel
theorem u88_162 {d : Nat} {ls : Lo} {st : List Va} {σ : Sg} {Q : Rs → Sg → Prop} {z : Int} : Wx d 88 162 ls (vi z :: st) σ Q ↔ Wx d 88 163 (lset ls 2 (vi z)) st σ Q := u_istore_n d88_162 (by decide)
theorem d88_163 : decode (mB 88) 163 = .ok (.iload_n 2, 1) := by decide +kernel
theorem u88_163 {d : Nat} {ls : Lo} {st : List Va} {σ : Sg} {Q : Rs → Sg → Prop} : Wx d 88 163 ls st σ Q ↔ Li (lget ls 2) (fun z => Wx d 88 164 ls (vi z :: st) σ Q) := u_iload_n d88_163
theorem d88_164 : decode (mB 88) 164 = .ok (.aload_n 0, 1) := by decide +kernel
theorem u88_164 {d : Nat} {ls : Lo} {st : List Va} {σ : Sg} {Q : Rs → Sg → Prop} : Wx d 88 164 ls st σ Q ↔ Lr (lget ls 0) (fun z => Wx d 88 165 ls (.inr (.inl z) :: st) σ Q) := u_aload_n d88_164
theorem d88_165 : decode (mB 88) 165 = .ok (.getfield 35, 3) := by decide +kernel
theorem u88_165 {d : Nat} {ls : Lo} {st : List Va} {σ : Sg} {Q : Rs → Sg → Prop} {g j : Nat} : Wx d 88 165 ls (vr g j :: st) σ Q ↔ isO g j 7 ∧ Wx d 88 168 ls (fvv σ g j 11 :: st) σ Q := u_get (w := (7, 11)) d88_165 rfl
theorem d88_168 : decode (mB 88) 168 = .ok (.iload_n 1, 1) := by decide +kernel
theorem u88_168 {d : Nat} {ls : Lo} {st : List Va} {σ : Sg} {Q : Rs → Sg → Prop} : Wx d 88 168 ls st σ Q ↔ Li (lget ls 1) (fun z => Wx d 88 169 ls (vi z :: st) σ Q) := u_iload_n d88_168
theorem d88_169 : decode (mB 88) 169 = .ok (.iaload, 1) := by decide +kernel
theorem u88_169 {d : Nat} {ls : Lo} {st : List Va} {σ : Sg} {Q : Rs → Sg → Prop} {z : Int} {g j : Nat} : Wx d 88 169 ls (vi z :: vr g j :: st) σ Q ↔ On (ial σ g j z) (fun x => Wx d 88 170 ls (vi x :: st) σ Q) := u_iald d88_169
theorem d88_170 : decode (mB 88) 170 = .ok (.if_icmp .ge 24, 3) := by decide +kernel
theorem u88_170 {d : Nat} {ls : Lo} {st : List Va} {σ : Sg} {Q : Rs → Sg → Prop} {a b : Int} (h : -2147483648 ≤ a ∧ a ≤ 2147483647) (h2 : -2147483648 ≤ b ∧ b ≤ 2147483647) : Wx d 88 170 ls (vi b :: vi a :: st) σ Q ↔ if b ≤ a then Wx d 88 194 ls st σ Q else Wx d 88 173 ls st σ Q := u_icge d88_170 (by decide) h h2
theorem d88_173 : decode (mB 88) 173 = .ok (.aload_n 0, 1) := by decide +kernel
theorem u88_173 {d : Nat} {ls : Lo} {st : List Va} {σ : Sg} {Q : Rs → Sg → Prop} : Wx d 88 173 ls st σ Q ↔ Lr (lget ls 0) (fun z => Wx d 88 174 ls (.inr (.inl z) :: st) σ Q) := u_aload_n d88_173
theorem d88_174 : decode (mB 88) 174 = .ok (.iload_n 1, 1) := by decide +kernel
theorem u88_174 {d : Nat} {ls : Lo} {st : List Va} {σ : Sg} {Q : Rs → Sg → Prop} : Wx d 88 174 ls st σ Q ↔ Li (lget ls 1) (fun z => Wx d 88 175 ls (vi z :: st) σ Q) := u_iload_n d88_174
theorem d88_175 : decode (mB 88) 175 = .ok (.aload_n 0, 1) := by decide +kernel
theorem u88_175 {d : Nat} {ls : Lo} {st : List Va} {σ : Sg} {Q : Rs → Sg → Prop} : Wx d 88 175 ls st σ Q ↔ Lr (lget ls 0) (fun z => Wx d 88 176 ls (.inr (.inl z) :: st) σ Q) := u_aload_n d88_175
theorem d88_176 : decode (mB 88) 176 = .ok (.getfield 38, 3) := by decide +kernel
theorem u88_176 {d : Nat} {ls : Lo} {st : List Va} {σ : Sg} {Q : Rs → Sg → Prop} {g j : Nat} : Wx d 88 176 ls (vr g j :: st) σ Q ↔ isO g j 7 ∧ Wx d 88 179 ls (fvv σ g j 12 :: st) σ Q := u_get (w := (7, 12)) d88_176 rfl
theorem d88_179 : decode (mB 88) 179 = .ok (.iconst 3, 1) := by decide +kernel
theorem u88_179 {d : Nat} {ls : Lo} {st : List Va} {σ : Sg} {Q : Rs → Sg → Prop} : Wx d 88 179 ls st σ Q ↔ Wx d 88 180 ls (vi 3 :: st) σ Q := u_iconst d88_179
theorem d88_180 : decode (mB 88) 180 = .ok (.iload_n 1, 1) := by decide +kernel
theorem u88_180 {d : Nat} {ls : Lo} {st : List Va} {σ : Sg} {Q : Rs → Sg → Prop} : Wx d 88 180 ls st σ Q ↔ Li (lget ls 1) (fun z => Wx d 88 181 ls (vi z :: st) σ Q) := u_iload_n d88_180
theorem d88_181 : decode (mB 88) 181 = .ok (.imul, 1) := by decide +kernel
theorem u88_181 {d : Nat} {ls : Lo} {st : List Va} {σ : Sg} {Q : Rs → Sg → Prop} {a b : Int} : Wx d 88 181 ls (vi b :: vi a :: st) σ Q ↔ Wx d 88 182 ls (vi (a * b) :: st) σ Q := u_imul d88_181
theorem d88_182 : decode (mB 88) 182 = .ok (.iload_n 2, 1) := by decide +kernel
theorem u88_182 {d : Nat} {ls : Lo} {st : List Va} {σ : Sg} {Q : Rs → Sg → Prop} : Wx d 88 182 ls st σ Q ↔ Li (lget ls 2) (fun z => Wx d 88 183 ls (vi z :: st) σ Q) := u_iload_n d88_182
theorem d88_183 : decode (mB 88) 183 = .ok (.iadd, 1) := by decide +kernel
theorem u88_183 {d : Nat} {ls : Lo} {st : List Va} {σ : Sg} {Q : Rs → Sg → Prop} {a b : Int} : Wx d 88 183 ls (vi b :: vi a :: st) σ Q ↔ Wx d 88 184 ls (vi (a + b) :: st) σ Q := u_iadd d88_183
theorem d88_184 : decode (mB 88) 184 = .ok (.iaload, 1) := by decide +kernel
theorem u88_184 {d : Nat} {ls : Lo} {st : List Va} {σ : Sg} {Q : Rs → Sg → Prop} {z : Int} {g j : Nat} : Wx d 88 184 ls (vi z :: vr g j :: st) σ Q ↔ On (ial σ g j z) (fun x => Wx d 88 185 ls (vi x :: st) σ Q) := u_iald d88_184
theorem d88_185 : decode (mB 88) 185 = .ok (.invokevirtual 142, 3) := by decide +kernel
theorem u88_185 {d : Nat} {ls : Lo} {st : List Va} {σ : Sg} {Q : Rs → Sg → Prop} {g j : Nat} {a1 a2 : Va} : Wx (d + 1) 88 185 ls (a2 :: a1 :: vr g j :: st) σ Q ↔ (isO g j 7 ∧ st.length ≤ 4 ∧ nlg [a2, a1] = true) ∧ Wm d 85 [vr g j, a1, a2] σ (Kc (d + 1) 88 188 ls st Q) := u_inv2 d88_185 rfl rfl rfl
theorem d88_188 : decode (mB 88) 188 = .ok (.iinc 2 1, 3) := by decide +kernel
theorem u88_188 {d : Nat} {ls : Lo} {st : List Va} {σ : Sg} {Q : Rs → Sg → Prop} : Wx d 88 188 ls st σ Q ↔ Li (lget ls 2) (fun z => Wx d 88 191 (lset ls 2 (vi (z + 1))) st σ Q) := u_iinc d88_188 (by decide)
theorem d88_191 : decode (mB 88) 191 = .ok (.goto (-28), 3) := by decide +kernel
theorem u88_191 {d : Nat} {ls : Lo} {st : List Va} {σ : Sg} {Q : Rs → Sg → Prop} : Wx d 88 191 ls st σ Q ↔ Wx d 88 163 ls st σ Q := u_goto d88_191 (by decide)
theorem d88_194 : decode (mB 88) 194 = .ok (.return_, 1) := by decide +kernel
theorem u88_194 {d : Nat} {ls : Lo} {σ : Sg} {Q : Rs → Sg → Prop} : Wx d 88 194 ls [] σ Q ↔ Q (.inl none) σ := u_vret d88_194 rfl
/-! 89: FiguredBassModel.addTone(II)V -/
theorem d89_0 : decode (mB 89) 0 = .ok (.aload_n 0, 1) := by decide +kernel
theorem u89_0 {d : Nat} {ls : Lo} {st : List Va} {σ : Sg} {Q : Rs → Sg → Prop} : Wx d 89 0 ls st σ Q ↔ Lr (lget ls 0) (fun z => Wx d 89 1 ls (.inr (.inl z) :: st) σ Q) := u_aload_n d89_0
theorem d89_1 : decode (mB 89) 1 = .ok (.getfield 50, 3) := by decide +kernel
theorem u89_1 {d : Nat} {ls : Lo} {st : List Va} {σ : Sg} {Q : Rs → Sg → Prop} {g j : Nat} : Wx d 89 1 ls (vr g j :: st) σ Q ↔ isO g j 7 ∧ Wx d 89 4 ls (fvv σ g j 18 :: st) σ Q := u_get (w := (7, 18)) d89_1 rfl
theorem d89_4 : decode (mB 89) 4 = .ok (.aload_n 0, 1) := by decide +kernel
theorem u89_4 {d : Nat} {ls : Lo} {st : List Va} {σ : Sg} {Q : Rs → Sg → Prop} : Wx d 89 4 ls st σ Q ↔ Lr (lget ls 0) (fun z => Wx d 89 5 ls (.inr (.inl z) :: st) σ Q) := u_aload_n d89_4
theorem d89_5 : decode (mB 89) 5 = .ok (.getfield 153, 3) := by decide +kernel
theorem u89_5 {d : Nat} {ls : Lo} {st : List Va} {σ : Sg} {Q : Rs → Sg → Prop} {g j : Nat} : Wx d 89 5 ls (vr g j :: st) σ Q ↔ isO g j 7 ∧ Wx d 89 8 ls (fvv σ g j 17 :: st) σ Q := u_get (w := (7, 17)) d89_5 rfl
theorem d89_8 : decode (mB 89) 8 = .ok (.iload_n 1, 1) := by decide +kernel
theorem u89_8 {d : Nat} {ls : Lo} {st : List Va} {σ : Sg} {Q : Rs → Sg → Prop} : Wx d 89 8 ls st σ Q ↔ Li (lget ls 1) (fun z => Wx d 89 9 ls (vi z :: st) σ Q) := u_iload_n d89_8
theorem d89_9 : decode (mB 89) 9 = .ok (.iastore, 1) := by decide +kernel
theorem u89_9 {d : Nat} {ls : Lo} {st : List Va} {σ : Sg} {Q : Rs → Sg → Prop} {x z : Int} {g j : Nat} : Wx d 89 9 ls (vi x :: vi z :: vr g j :: st) σ Q ↔ isA g j 0 z ∧ Wx d 89 10 ls st (up σ g j z.toNat x) Q := u_iast d89_9
theorem d89_10 : decode (mB 89) 10 = .ok (.aload_n 0, 1) := by decide +kernel
theorem u89_10 {d : Nat} {ls : Lo} {st : List Va} {σ : Sg} {Q : Rs → Sg → Prop} : Wx d 89 10 ls st σ Q ↔ Lr (lget ls 0) (fun z => Wx d 89 11 ls (.inr (.inl z) :: st) σ Q) := u_aload_n d89_10
theorem d89_11 : decode (mB 89) 11 = .ok (.getfield 53, 3) := by decide +kernel
theorem u89_11 {d : Nat} {ls : Lo} {st : List Va} {σ : Sg} {Q : Rs → Sg → Prop} {g j : Nat} : Wx d 89 11 ls (vr g j :: st) σ Q ↔ isO g j 7 ∧ Wx d 89 14 ls (fvv σ g j 19 :: st) σ Q := u_get (w := (7, 19)) d89_11 rfl
theorem d89_14 : decode (mB 89) 14 = .ok (.aload_n 0, 1) := by decide +kernel
theorem u89_14 {d : Nat} {ls : Lo} {st : List Va} {σ : Sg} {Q : Rs → Sg → Prop} : Wx d 89 14 ls st σ Q ↔ Lr (lget ls 0) (fun z => Wx d 89 15 ls (.inr (.inl z) :: st) σ Q) := u_aload_n d89_14
theorem d89_15 : decode (mB 89) 15 = .ok (.getfield 153, 3) := by decide +kernel
theorem u89_15 {d : Nat} {ls : Lo} {st : List Va} {σ : Sg} {Q : Rs → Sg → Prop} {g j : Nat} : Wx d 89 15 ls (vr g j :: st) σ Q ↔ isO g j 7 ∧ Wx d 89 18 ls (fvv σ g j 17 :: st) σ Q := u_get (w := (7, 17)) d89_15 rfl
theorem d89_18 : decode (mB 89) 18 = .ok (.aload_n 0, 1) := by decide +kernel
theorem u89_18 {d : Nat} {ls : Lo} {st : List Va} {σ : Sg} {Q : Rs → Sg → Prop} : Wx d 89 18 ls st σ Q ↔ Lr (lget ls 0) (fun z => Wx d 89 19 ls (.inr (.inl z) :: st) σ Q) := u_aload_n d89_18
theorem d89_19 : decode (mB 89) 19 = .ok (.iload_n 1, 1) := by decide +kernel
theorem u89_19 {d : Nat} {ls : Lo} {st : List Va} {σ : Sg} {Q : Rs → Sg → Prop} : Wx d 89 19 ls st σ Q ↔ Li (lget ls 1) (fun z => Wx d 89 20 ls (vi z :: st) σ Q) := u_iload_n d89_19
theorem d89_20 : decode (mB 89) 20 = .ok (.iload_n 2, 1) := by decide +kernel
theorem u89_20 {d : Nat} {ls : Lo} {st : List Va} {σ : Sg} {Q : Rs → Sg → Prop} : Wx d 89 20 ls st σ Q ↔ Li (lget ls 2) (fun z => Wx d 89 21 ls (vi z :: st) σ Q) := u_iload_n d89_20
theorem d89_21 : decode (mB 89) 21 = .ok (.invokevirtual 126, 3) := by decide +kernel
theorem u89_21 {d : Nat} {ls : Lo} {st : List Va} {σ : Sg} {Q : Rs → Sg → Prop} {g j : Nat} {a1 a2 : Va} : Wx (d + 1) 89 21 ls (a2 :: a1 :: vr g j :: st) σ Q ↔ (isO g j 7 ∧ st.length ≤ 4 ∧ nlg [a2, a1] = true) ∧ Wm d 77 [vr g j, a1, a2] σ (Kc (d + 1) 89 24 ls st Q) := u_inv2 d89_21 rfl rfl rfl
theorem d89_24 : decode (mB 89) 24 = .ok (.iastore, 1) := by decide +kernel
theorem u89_24 {d : Nat} {ls : Lo} {st : List Va} {σ : Sg} {Q : Rs → Sg → Prop} {x z : Int} {g j : Nat} : Wx d 89 24 ls (vi x :: vi z :: vr g j :: st) σ Q ↔ isA g j 0 z ∧ Wx d 89 25 ls st (up σ g j z.toNat x) Q := u_iast d89_24
theorem d89_25 : decode (mB 89) 25 = .ok (.aload_n 0, 1) := by decide +kernel
theorem u89_25 {d : Nat} {ls : Lo} {st : List Va} {σ : Sg} {Q : Rs → Sg → Prop} : Wx d 89 25 ls st σ Q ↔ Lr (lget ls 0) (fun z => Wx d 89 26 ls (.inr (.inl z) :: st) σ Q) := u_aload_n d89_25
theorem d89_26 : decode (mB 89) 26 = .ok (.dup, 1) := by decide +kernel
theorem u89_26i {d : Nat} {ls : Lo} {st : List Va} {σ : Sg} {Q : Rs → Sg → Prop} {a : Int} : Wx d 89 26 ls (vi a :: st) σ Q ↔ Wx d 89 27 ls (vi a :: vi a :: st) σ Q := u_dupi d89_26
theorem u89_26r {d : Nat} {ls : Lo} {st : List Va} {σ : Sg} {Q : Rs → Sg → Prop} {g j : Nat} : Wx d 89 26 ls (vr g j :: st) σ Q ↔ Wx d 89 27 ls (vr g j :: vr g j :: st) σ Q := u_dupr d89_26
theorem d89_27 : decode (mB 89) 27 = .ok (.getfield 153, 3) := by decide +kernel
theorem u89_27 {d : Nat} {ls : Lo} {st : List Va} {σ : Sg} {Q : Rs → Sg → Prop} {g j : Nat} : Wx d 89 27 ls (vr g j :: st) σ Q ↔ isO g j 7 ∧ Wx d 89 30 ls (fvv σ g j 17 :: st) σ Q := u_get (w := (7, 17)) d89_27 rfl
theorem d89_30 : decode (mB 89) 30 = .ok (.iconst 1, 1) := by decide +kernel
theorem u89_30 {d : Nat} {ls : Lo} {st : List Va} {σ : Sg} {Q : Rs → Sg → Prop} : Wx d 89 30 ls st σ Q ↔ Wx d 89 31 ls (vi 1 :: st) σ Q := u_iconst d89_30
theorem d89_31 : decode (mB 89) 31 = .ok (.iadd, 1) := by decide +kernel
theorem u89_31 {d : Nat} {ls : Lo} {st : List Va} {σ : Sg} {Q : Rs → Sg → Prop} {a b : Int} : Wx d 89 31 ls (vi b :: vi a :: st) σ Q ↔ Wx d 89 32 ls (vi (a + b) :: st) σ Q := u_iadd d89_31
theorem d89_32 : decode (mB 89) 32 = .ok (.putfield 153, 3) := by decide +kernel
theorem u89_32 {d : Nat} {ls : Lo} {st : List Va} {σ : Sg} {Q : Rs → Sg → Prop} {z : Int} {g j : Nat} : Wx d 89 32 ls (vi z :: vr g j :: st) σ Q ↔ (isO g j 7 ∧ rf g j 17 = none) ∧ Wx d 89 35 ls st (up σ g j 17 z) Q := u_put (w := (7, 17)) d89_32 rfl rfl rfl
theorem d89_35 : decode (mB 89) 35 = .ok (.return_, 1) := by decide +kernel
theorem u89_35 {d : Nat} {ls : Lo} {σ : Sg} {Q : Rs → Sg → Prop} : Wx d 89 35 ls [] σ Q ↔ Q (.inl none) σ := u_vret d89_35 rfl
/-! 90: FiguredBassModel.classIn(I)I -/
theorem d90_0 : decode (mB 90) 0 = .ok (.iconst 0, 1) := by decide +kernel
theorem u90_0 {d : Nat} {ls : Lo} {st : List Va} {σ : Sg} {Q : Rs → Sg → Prop} : Wx d 90 0 ls st σ Q ↔ Wx d 90 1 ls (vi 0 :: st) σ Q := u_iconst d90_0
theorem d90_1 : decode (mB 90) 1 = .ok (.istore_n 2, 1) := by decide +kernel
theorem u90_1 {d : Nat} {ls : Lo} {st : List Va} {σ : Sg} {Q : Rs → Sg → Prop} {z : Int} : Wx d 90 1 ls (vi z :: st) σ Q ↔ Wx d 90 2 (lset ls 2 (vi z)) st σ Q := u_istore_n d90_1 (by decide)
theorem d90_2 : decode (mB 90) 2 = .ok (.iload_n 2, 1) := by decide +kernel
theorem u90_2 {d : Nat} {ls : Lo} {st : List Va} {σ : Sg} {Q : Rs → Sg → Prop} : Wx d 90 2 ls st σ Q ↔ Li (lget ls 2) (fun z => Wx d 90 3 ls (vi z :: st) σ Q) := u_iload_n d90_2
theorem d90_3 : decode (mB 90) 3 = .ok (.aload_n 0, 1) := by decide +kernel
theorem u90_3 {d : Nat} {ls : Lo} {st : List Va} {σ : Sg} {Q : Rs → Sg → Prop} : Wx d 90 3 ls st σ Q ↔ Lr (lget ls 0) (fun z => Wx d 90 4 ls (.inr (.inl z) :: st) σ Q) := u_aload_n d90_3
theorem d90_4 : decode (mB 90) 4 = .ok (.getfield 139, 3) := by decide +kernel
theorem u90_4 {d : Nat} {ls : Lo} {st : List Va} {σ : Sg} {Q : Rs → Sg → Prop} {g j : Nat} : Wx d 90 4 ls (vr g j :: st) σ Q ↔ isO g j 7 ∧ Wx d 90 7 ls (fvv σ g j 14 :: st) σ Q := u_get (w := (7, 14)) d90_4 rfl
theorem d90_7 : decode (mB 90) 7 = .ok (.if_icmp .ge 28, 3) := by decide +kernel
theorem u90_7 {d : Nat} {ls : Lo} {st : List Va} {σ : Sg} {Q : Rs → Sg → Prop} {a b : Int} (h : -2147483648 ≤ a ∧ a ≤ 2147483647) (h2 : -2147483648 ≤ b ∧ b ≤ 2147483647) : Wx d 90 7 ls (vi b :: vi a :: st) σ Q ↔ if b ≤ a then Wx d 90 35 ls st σ Q else Wx d 90 10 ls st σ Q := u_icge d90_7 (by decide) h h2
theorem d90_10 : decode (mB 90) 10 = .ok (.aload_n 0, 1) := by decide +kernel
theorem u90_10 {d : Nat} {ls : Lo} {st : List Va} {σ : Sg} {Q : Rs → Sg → Prop} : Wx d 90 10 ls st σ Q ↔ Lr (lget ls 0) (fun z => Wx d 90 11 ls (.inr (.inl z) :: st) σ Q) := u_aload_n d90_10
theorem d90_11 : decode (mB 90) 11 = .ok (.getfield 44, 3) := by decide +kernel
theorem u90_11 {d : Nat} {ls : Lo} {st : List Va} {σ : Sg} {Q : Rs → Sg → Prop} {g j : Nat} : Wx d 90 11 ls (vr g j :: st) σ Q ↔ isO g j 7 ∧ Wx d 90 14 ls (fvv σ g j 15 :: st) σ Q := u_get (w := (7, 15)) d90_11 rfl
theorem d90_14 : decode (mB 90) 14 = .ok (.iload_n 2, 1) := by decide +kernel
theorem u90_14 {d : Nat} {ls : Lo} {st : List Va} {σ : Sg} {Q : Rs → Sg → Prop} : Wx d 90 14 ls st σ Q ↔ Li (lget ls 2) (fun z => Wx d 90 15 ls (vi z :: st) σ Q) := u_iload_n d90_14
theorem d90_15 : decode (mB 90) 15 = .ok (.iaload, 1) := by decide +kernel
theorem u90_15 {d : Nat} {ls : Lo} {st : List Va} {σ : Sg} {Q : Rs → Sg → Prop} {z : Int} {g j : Nat} : Wx d 90 15 ls (vi z :: vr g j :: st) σ Q ↔ On (ial σ g j z) (fun x => Wx d 90 16 ls (vi x :: st) σ Q) := u_iald d90_15
theorem d90_16 : decode (mB 90) 16 = .ok (.iload_n 1, 1) := by decide +kernel
theorem u90_16 {d : Nat} {ls : Lo} {st : List Va} {σ : Sg} {Q : Rs → Sg → Prop} : Wx d 90 16 ls st σ Q ↔ Li (lget ls 1) (fun z => Wx d 90 17 ls (vi z :: st) σ Q) := u_iload_n d90_16
theorem d90_17 : decode (mB 90) 17 = .ok (.if_icmp .ne 12, 3) := by decide +kernel
theorem u90_17 {d : Nat} {ls : Lo} {st : List Va} {σ : Sg} {Q : Rs → Sg → Prop} {a b : Int} (h : -2147483648 ≤ a ∧ a ≤ 2147483647) (h2 : -2147483648 ≤ b ∧ b ≤ 2147483647) : Wx d 90 17 ls (vi b :: vi a :: st) σ Q ↔ if ¬ a = b then Wx d 90 29 ls st σ Q else Wx d 90 20 ls st σ Q := u_icne d90_17 (by decide) h h2
theorem d90_20 : decode (mB 90) 20 = .ok (.aload_n 0, 1) := by decide +kernel
theorem u90_20 {d : Nat} {ls : Lo} {st : List Va} {σ : Sg} {Q : Rs → Sg → Prop} : Wx d 90 20 ls st σ Q ↔ Lr (lget ls 0) (fun z => Wx d 90 21 ls (.inr (.inl z) :: st) σ Q) := u_aload_n d90_20
theorem d90_21 : decode (mB 90) 21 = .ok (.getfield 53, 3) := by decide +kernel
theorem u90_21 {d : Nat} {ls : Lo} {st : List Va} {σ : Sg} {Q : Rs → Sg → Prop} {g j : Nat} : Wx d 90 21 ls (vr g j :: st) σ Q ↔ isO g j 7 ∧ Wx d 90 24 ls (fvv σ g j 19 :: st) σ Q := u_get (w := (7, 19)) d90_21 rfl
theorem d90_24 : decode (mB 90) 24 = .ok (.iload_n 2, 1) := by decide +kernel
theorem u90_24 {d : Nat} {ls : Lo} {st : List Va} {σ : Sg} {Q : Rs → Sg → Prop} : Wx d 90 24 ls st σ Q ↔ Li (lget ls 2) (fun z => Wx d 90 25 ls (vi z :: st) σ Q) := u_iload_n d90_24
theorem d90_25 : decode (mB 90) 25 = .ok (.iconst 1, 1) := by decide +kernel
theorem u90_25 {d : Nat} {ls : Lo} {st : List Va} {σ : Sg} {Q : Rs → Sg → Prop} : Wx d 90 25 ls st σ Q ↔ Wx d 90 26 ls (vi 1 :: st) σ Q := u_iconst d90_25
theorem d90_26 : decode (mB 90) 26 = .ok (.iadd, 1) := by decide +kernel
theorem u90_26 {d : Nat} {ls : Lo} {st : List Va} {σ : Sg} {Q : Rs → Sg → Prop} {a b : Int} : Wx d 90 26 ls (vi b :: vi a :: st) σ Q ↔ Wx d 90 27 ls (vi (a + b) :: st) σ Q := u_iadd d90_26
theorem d90_27 : decode (mB 90) 27 = .ok (.iaload, 1) := by decide +kernel
theorem u90_27 {d : Nat} {ls : Lo} {st : List Va} {σ : Sg} {Q : Rs → Sg → Prop} {z : Int} {g j : Nat} : Wx d 90 27 ls (vi z :: vr g j :: st) σ Q ↔ On (ial σ g j z) (fun x => Wx d 90 28 ls (vi x :: st) σ Q) := u_iald d90_27
theorem d90_28 : decode (mB 90) 28 = .ok (.ireturn, 1) := by decide +kernel
theorem u90_28 {d : Nat} {ls : Lo} {σ : Sg} {Q : Rs → Sg → Prop} {z : Int} : Wx d 90 28 ls [vi z] σ Q ↔ Q (.inl (some (vi z))) σ := u_iret d90_28 rfl
theorem d90_29 : decode (mB 90) 29 = .ok (.iinc 2 1, 3) := by decide +kernel
theorem u90_29 {d : Nat} {ls : Lo} {st : List Va} {σ : Sg} {Q : Rs → Sg → Prop} : Wx d 90 29 ls st σ Q ↔ Li (lget ls 2) (fun z => Wx d 90 32 (lset ls 2 (vi (z + 1))) st σ Q) := u_iinc d90_29 (by decide)
theorem d90_32 : decode (mB 90) 32 = .ok (.goto (-30), 3) := by decide +kernel
theorem u90_32 {d : Nat} {ls : Lo} {st : List Va} {σ : Sg} {Q : Rs → Sg → Prop} : Wx d 90 32 ls st σ Q ↔ Wx d 90 2 ls st σ Q := u_goto d90_32 (by decide)
theorem d90_35 : decode (mB 90) 35 = .ok (.iconst (-1), 1) := by decide +kernel
theorem u90_35 {d : Nat} {ls : Lo} {st : List Va} {σ : Sg} {Q : Rs → Sg → Prop} : Wx d 90 35 ls st σ Q ↔ Wx d 90 36 ls (vi (-1) :: st) σ Q := u_iconst d90_35
theorem d90_36 : decode (mB 90) 36 = .ok (.ireturn, 1) := by decide +kernel
theorem u90_36 {d : Nat} {ls : Lo} {σ : Sg} {Q : Rs → Sg → Prop} {z : Int} : Wx d 90 36 ls [vi z] σ Q ↔ Q (.inl (some (vi z))) σ := u_iret d90_36 rfl
/-! 91: FiguredBassModel.look(I)V -/
theorem d91_0 : decode (mB 91) 0 = .ok (.aload_n 0, 1) := by decide +kernel
theorem u91_0 {d : Nat} {ls : Lo} {st : List Va} {σ : Sg} {Q : Rs → Sg → Prop} : Wx d 91 0 ls st σ Q ↔ Lr (lget ls 0) (fun z => Wx d 91 1 ls (.inr (.inl z) :: st) σ Q) := u_aload_n d91_0
theorem d91_1 : decode (mB 91) 1 = .ok (.iload_n 1, 1) := by decide +kernel
theorem u91_1 {d : Nat} {ls : Lo} {st : List Va} {σ : Sg} {Q : Rs → Sg → Prop} : Wx d 91 1 ls st σ Q ↔ Li (lget ls 1) (fun z => Wx d 91 2 ls (vi z :: st) σ Q) := u_iload_n d91_1
theorem d91_2 : decode (mB 91) 2 = .ok (.invokevirtual 156, 3) := by decide +kernel
theorem u91_2 {d : Nat} {ls : Lo} {st : List Va} {σ : Sg} {Q : Rs → Sg → Prop} {g j : Nat} {a1 : Va} : Wx (d + 1) 91 2 ls (a1 :: vr g j :: st) σ Q ↔ (isO g j 7 ∧ st.length ≤ 4 ∧ nlg [a1] = true) ∧ Wm d 88 [vr g j, a1] σ (Kc (d + 1) 91 5 ls st Q) := u_inv1 d91_2 rfl rfl rfl
theorem d91_5 : decode (mB 91) 5 = .ok (.aload_n 0, 1) := by decide +kernel
theorem u91_5 {d : Nat} {ls : Lo} {st : List Va} {σ : Sg} {Q : Rs → Sg → Prop} : Wx d 91 5 ls st σ Q ↔ Lr (lget ls 0) (fun z => Wx d 91 6 ls (.inr (.inl z) :: st) σ Q) := u_aload_n d91_5
theorem d91_6 : decode (mB 91) 6 = .ok (.iconst 0, 1) := by decide +kernel
theorem u91_6 {d : Nat} {ls : Lo} {st : List Va} {σ : Sg} {Q : Rs → Sg → Prop} : Wx d 91 6 ls st σ Q ↔ Wx d 91 7 ls (vi 0 :: st) σ Q := u_iconst d91_6
theorem d91_7 : decode (mB 91) 7 = .ok (.putfield 153, 3) := by decide +kernel
theorem u91_7 {d : Nat} {ls : Lo} {st : List Va} {σ : Sg} {Q : Rs → Sg → Prop} {z : Int} {g j : Nat} : Wx d 91 7 ls (vi z :: vr g j :: st) σ Q ↔ (isO g j 7 ∧ rf g j 17 = none) ∧ Wx d 91 10 ls st (up σ g j 17 z) Q := u_put (w := (7, 17)) d91_7 rfl rfl rfl
theorem d91_10 : decode (mB 91) 10 = .ok (.aload_n 0, 1) := by decide +kernel
theorem u91_10 {d : Nat} {ls : Lo} {st : List Va} {σ : Sg} {Q : Rs → Sg → Prop} : Wx d 91 10 ls st σ Q ↔ Lr (lget ls 0) (fun z => Wx d 91 11 ls (.inr (.inl z) :: st) σ Q) := u_aload_n d91_10
theorem d91_11 : decode (mB 91) 11 = .ok (.aload_n 0, 1) := by decide +kernel
theorem u91_11 {d : Nat} {ls : Lo} {st : List Va} {σ : Sg} {Q : Rs → Sg → Prop} : Wx d 91 11 ls st σ Q ↔ Lr (lget ls 0) (fun z => Wx d 91 12 ls (.inr (.inl z) :: st) σ Q) := u_aload_n d91_11
theorem d91_12 : decode (mB 91) 12 = .ok (.getfield 29, 3) := by decide +kernel
theorem u91_12 {d : Nat} {ls : Lo} {st : List Va} {σ : Sg} {Q : Rs → Sg → Prop} {g j : Nat} : Wx d 91 12 ls (vr g j :: st) σ Q ↔ isO g j 7 ∧ Wx d 91 15 ls (fvv σ g j 9 :: st) σ Q := u_get (w := (7, 9)) d91_12 rfl
theorem d91_15 : decode (mB 91) 15 = .ok (.iload_n 1, 1) := by decide +kernel
theorem u91_15 {d : Nat} {ls : Lo} {st : List Va} {σ : Sg} {Q : Rs → Sg → Prop} : Wx d 91 15 ls st σ Q ↔ Li (lget ls 1) (fun z => Wx d 91 16 ls (vi z :: st) σ Q) := u_iload_n d91_15
theorem d91_16 : decode (mB 91) 16 = .ok (.iaload, 1) := by decide +kernel
theorem u91_16 {d : Nat} {ls : Lo} {st : List Va} {σ : Sg} {Q : Rs → Sg → Prop} {z : Int} {g j : Nat} : Wx d 91 16 ls (vi z :: vr g j :: st) σ Q ↔ On (ial σ g j z) (fun x => Wx d 91 17 ls (vi x :: st) σ Q) := u_iald d91_16
theorem d91_17 : decode (mB 91) 17 = .ok (.aload_n 0, 1) := by decide +kernel
theorem u91_17 {d : Nat} {ls : Lo} {st : List Va} {σ : Sg} {Q : Rs → Sg → Prop} : Wx d 91 17 ls st σ Q ↔ Lr (lget ls 0) (fun z => Wx d 91 18 ls (.inr (.inl z) :: st) σ Q) := u_aload_n d91_17
theorem d91_18 : decode (mB 91) 18 = .ok (.getfield 32, 3) := by decide +kernel
theorem u91_18 {d : Nat} {ls : Lo} {st : List Va} {σ : Sg} {Q : Rs → Sg → Prop} {g j : Nat} : Wx d 91 18 ls (vr g j :: st) σ Q ↔ isO g j 7 ∧ Wx d 91 21 ls (fvv σ g j 10 :: st) σ Q := u_get (w := (7, 10)) d91_18 rfl
theorem d91_21 : decode (mB 91) 21 = .ok (.iload_n 1, 1) := by decide +kernel
theorem u91_21 {d : Nat} {ls : Lo} {st : List Va} {σ : Sg} {Q : Rs → Sg → Prop} : Wx d 91 21 ls st σ Q ↔ Li (lget ls 1) (fun z => Wx d 91 22 ls (vi z :: st) σ Q) := u_iload_n d91_21
theorem d91_22 : decode (mB 91) 22 = .ok (.iaload, 1) := by decide +kernel
theorem u91_22 {d : Nat} {ls : Lo} {st : List Va} {σ : Sg} {Q : Rs → Sg → Prop} {z : Int} {g j : Nat} : Wx d 91 22 ls (vi z :: vr g j :: st) σ Q ↔ On (ial σ g j z) (fun x => Wx d 91 23 ls (vi x :: st) σ Q) := u_iald d91_22
theorem d91_23 : decode (mB 91) 23 = .ok (.invokevirtual 160, 3) := by decide +kernel
theorem u91_23 {d : Nat} {ls : Lo} {st : List Va} {σ : Sg} {Q : Rs → Sg → Prop} {g j : Nat} {a1 a2 : Va} : Wx (d + 1) 91 23 ls (a2 :: a1 :: vr g j :: st) σ Q ↔ (isO g j 7 ∧ st.length ≤ 4 ∧ nlg [a2, a1] = true) ∧ Wm d 89 [vr g j, a1, a2] σ (Kc (d + 1) 91 26 ls st Q) := u_inv2 d91_23 rfl rfl rfl
theorem d91_26 : decode (mB 91) 26 = .ok (.aload_n 0, 1) := by decide +kernel
theorem u91_26 {d : Nat} {ls : Lo} {st : List Va} {σ : Sg} {Q : Rs → Sg → Prop} : Wx d 91 26 ls st σ Q ↔ Lr (lget ls 0) (fun z => Wx d 91 27 ls (.inr (.inl z) :: st) σ Q) := u_aload_n d91_26
theorem d91_27 : decode (mB 91) 27 = .ok (.iconst (-1), 1) := by decide +kernel
theorem u91_27 {d : Nat} {ls : Lo} {st : List Va} {σ : Sg} {Q : Rs → Sg → Prop} : Wx d 91 27 ls st σ Q ↔ Wx d 91 28 ls (vi (-1) :: st) σ Q := u_iconst d91_27
theorem d91_28 : decode (mB 91) 28 = .ok (.putfield 163, 3) := by decide +kernel
theorem u91_28 {d : Nat} {ls : Lo} {st : List Va} {σ : Sg} {Q : Rs → Sg → Prop} {z : Int} {g j : Nat} : Wx d 91 28 ls (vi z :: vr g j :: st) σ Q ↔ (isO g j 7 ∧ rf g j 20 = none) ∧ Wx d 91 31 ls st (up σ g j 20 z) Q := u_put (w := (7, 20)) d91_28 rfl rfl rfl
theorem d91_31 : decode (mB 91) 31 = .ok (.aload_n 0, 1) := by decide +kernel
theorem u91_31 {d : Nat} {ls : Lo} {st : List Va} {σ : Sg} {Q : Rs → Sg → Prop} : Wx d 91 31 ls st σ Q ↔ Lr (lget ls 0) (fun z => Wx d 91 32 ls (.inr (.inl z) :: st) σ Q) := u_aload_n d91_31
theorem d91_32 : decode (mB 91) 32 = .ok (.iload_n 1, 1) := by decide +kernel
theorem u91_32 {d : Nat} {ls : Lo} {st : List Va} {σ : Sg} {Q : Rs → Sg → Prop} : Wx d 91 32 ls st σ Q ↔ Li (lget ls 1) (fun z => Wx d 91 33 ls (vi z :: st) σ Q) := u_iload_n d91_32
theorem d91_33 : decode (mB 91) 33 = .ok (.invokevirtual 146, 3) := by decide +kernel
theorem u91_33 {d : Nat} {ls : Lo} {st : List Va} {σ : Sg} {Q : Rs → Sg → Prop} {g j : Nat} {a1 : Va} : Wx (d + 1) 91 33 ls (a1 :: vr g j :: st) σ Q ↔ (isO g j 7 ∧ st.length ≤ 4 ∧ nlg [a1] = true) ∧ Wm d 87 [vr g j, a1] σ (Kc (d + 1) 91 36 ls st Q) := u_inv1 d91_33 rfl rfl rfl
theorem d91_36 : decode (mB 91) 36 = .ok (.istore_n 2, 1) := by decide +kernel
theorem u91_36 {d : Nat} {ls : Lo} {st : List Va} {σ : Sg} {Q : Rs → Sg → Prop} {z : Int} : Wx d 91 36 ls (vi z :: st) σ Q ↔ Wx d 91 37 (lset ls 2 (vi z)) st σ Q := u_istore_n d91_36 (by decide)
theorem d91_37 : decode (mB 91) 37 = .ok (.iconst 0, 1) := by decide +kernel
theorem u91_37 {d : Nat} {ls : Lo} {st : List Va} {σ : Sg} {Q : Rs → Sg → Prop} : Wx d 91 37 ls st σ Q ↔ Wx d 91 38 ls (vi 0 :: st) σ Q := u_iconst d91_37
theorem d91_38 : decode (mB 91) 38 = .ok (.istore_n 3, 1) := by decide +kernel
theorem u91_38 {d : Nat} {ls : Lo} {st : List Va} {σ : Sg} {Q : Rs → Sg → Prop} {z : Int} : Wx d 91 38 ls (vi z :: st) σ Q ↔ Wx d 91 39 (lset ls 3 (vi z)) st σ Q := u_istore_n d91_38 (by decide)
theorem d91_39 : decode (mB 91) 39 = .ok (.iload_n 3, 1) := by decide +kernel
theorem u91_39 {d : Nat} {ls : Lo} {st : List Va} {σ : Sg} {Q : Rs → Sg → Prop} : Wx d 91 39 ls st σ Q ↔ Li (lget ls 3) (fun z => Wx d 91 40 ls (vi z :: st) σ Q) := u_iload_n d91_39
theorem d91_40 : decode (mB 91) 40 = .ok (.aload_n 0, 1) := by decide +kernel
theorem u91_40 {d : Nat} {ls : Lo} {st : List Va} {σ : Sg} {Q : Rs → Sg → Prop} : Wx d 91 40 ls st σ Q ↔ Lr (lget ls 0) (fun z => Wx d 91 41 ls (.inr (.inl z) :: st) σ Q) := u_aload_n d91_40
theorem d91_41 : decode (mB 91) 41 = .ok (.getfield 139, 3) := by decide +kernel
theorem u91_41 {d : Nat} {ls : Lo} {st : List Va} {σ : Sg} {Q : Rs → Sg → Prop} {g j : Nat} : Wx d 91 41 ls (vr g j :: st) σ Q ↔ isO g j 7 ∧ Wx d 91 44 ls (fvv σ g j 14 :: st) σ Q := u_get (w := (7, 14)) d91_41 rfl
theorem d91_44 : decode (mB 91) 44 = .ok (.if_icmp .ge 117, 3) := by decide +kernel
theorem u91_44 {d : Nat} {ls : Lo} {st : List Va} {σ : Sg} {Q : Rs → Sg → Prop} {a b : Int} (h : -2147483648 ≤ a ∧ a ≤ 2147483647) (h2 : -2147483648 ≤ b ∧ b ≤ 2147483647) : Wx d 91 44 ls (vi b :: vi a :: st) σ Q ↔ if b ≤ a then Wx d 91 161 ls st σ Q else Wx d 91 47 ls st σ Q := u_icge d91_44 (by decide) h h2
theorem d91_47 : decode (mB 91) 47 = .ok (.aload_n 0, 1) := by decide +kernel
theorem u91_47 {d : Nat} {ls : Lo} {st : List Va} {σ : Sg} {Q : Rs → Sg → Prop} : Wx d 91 47 ls st σ Q ↔ Lr (lget ls 0) (fun z => Wx d 91 48 ls (.inr (.inl z) :: st) σ Q) := u_aload_n d91_47
theorem d91_48 : decode (mB 91) 48 = .ok (.getfield 29, 3) := by decide +kernel
theorem u91_48 {d : Nat} {ls : Lo} {st : List Va} {σ : Sg} {Q : Rs → Sg → Prop} {g j : Nat} : Wx d 91 48 ls (vr g j :: st) σ Q ↔ isO g j 7 ∧ Wx d 91 51 ls (fvv σ g j 9 :: st) σ Q := u_get (w := (7, 9)) d91_48 rfl
theorem d91_51 : decode (mB 91) 51 = .ok (.iload_n 1, 1) := by decide +kernel
theorem u91_51 {d : Nat} {ls : Lo} {st : List Va} {σ : Sg} {Q : Rs → Sg → Prop} : Wx d 91 51 ls st σ Q ↔ Li (lget ls 1) (fun z => Wx d 91 52 ls (vi z :: st) σ Q) := u_iload_n d91_51
theorem d91_52 : decode (mB 91) 52 = .ok (.iaload, 1) := by decide +kernel
theorem u91_52 {d : Nat} {ls : Lo} {st : List Va} {σ : Sg} {Q : Rs → Sg → Prop} {z : Int} {g j : Nat} : Wx d 91 52 ls (vi z :: vr g j :: st) σ Q ↔ On (ial σ g j z) (fun x => Wx d 91 53 ls (vi x :: st) σ Q) := u_iald d91_52
theorem d91_53 : decode (mB 91) 53 = .ok (.aload_n 0, 1) := by decide +kernel
theorem u91_53 {d : Nat} {ls : Lo} {st : List Va} {σ : Sg} {Q : Rs → Sg → Prop} : Wx d 91 53 ls st σ Q ↔ Lr (lget ls 0) (fun z => Wx d 91 54 ls (.inr (.inl z) :: st) σ Q) := u_aload_n d91_53
theorem d91_54 : decode (mB 91) 54 = .ok (.getfield 44, 3) := by decide +kernel
theorem u91_54 {d : Nat} {ls : Lo} {st : List Va} {σ : Sg} {Q : Rs → Sg → Prop} {g j : Nat} : Wx d 91 54 ls (vr g j :: st) σ Q ↔ isO g j 7 ∧ Wx d 91 57 ls (fvv σ g j 15 :: st) σ Q := u_get (w := (7, 15)) d91_54 rfl
theorem d91_57 : decode (mB 91) 57 = .ok (.iload_n 3, 1) := by decide +kernel
theorem u91_57 {d : Nat} {ls : Lo} {st : List Va} {σ : Sg} {Q : Rs → Sg → Prop} : Wx d 91 57 ls st σ Q ↔ Li (lget ls 3) (fun z => Wx d 91 58 ls (vi z :: st) σ Q) := u_iload_n d91_57
theorem d91_58 : decode (mB 91) 58 = .ok (.iaload, 1) := by decide +kernel
theorem u91_58 {d : Nat} {ls : Lo} {st : List Va} {σ : Sg} {Q : Rs → Sg → Prop} {z : Int} {g j : Nat} : Wx d 91 58 ls (vi z :: vr g j :: st) σ Q ↔ On (ial σ g j z) (fun x => Wx d 91 59 ls (vi x :: st) σ Q) := u_iald d91_58
theorem d91_59 : decode (mB 91) 59 = .ok (.iadd, 1) := by decide +kernel
theorem u91_59 {d : Nat} {ls : Lo} {st : List Va} {σ : Sg} {Q : Rs → Sg → Prop} {a b : Int} : Wx d 91 59 ls (vi b :: vi a :: st) σ Q ↔ Wx d 91 60 ls (vi (a + b) :: st) σ Q := u_iadd d91_59
theorem d91_60 : decode (mB 91) 60 = .ok (.iconst 1, 1) := by decide +kernel
theorem u91_60 {d : Nat} {ls : Lo} {st : List Va} {σ : Sg} {Q : Rs → Sg → Prop} : Wx d 91 60 ls st σ Q ↔ Wx d 91 61 ls (vi 1 :: st) σ Q := u_iconst d91_60
theorem d91_61 : decode (mB 91) 61 = .ok (.isub, 1) := by decide +kernel
theorem u91_61 {d : Nat} {ls : Lo} {st : List Va} {σ : Sg} {Q : Rs → Sg → Prop} {a b : Int} : Wx d 91 61 ls (vi b :: vi a :: st) σ Q ↔ Wx d 91 62 ls (vi (a - b) :: st) σ Q := u_isub d91_61
theorem d91_62 : decode (mB 91) 62 = .ok (.bipush 7, 2) := by decide +kernel
theorem u91_62 {d : Nat} {ls : Lo} {st : List Va} {σ : Sg} {Q : Rs → Sg → Prop} : Wx d 91 62 ls st σ Q ↔ Wx d 91 64 ls (vi 7 :: st) σ Q := u_bipush d91_62 (by decide)
theorem d91_64 : decode (mB 91) 64 = .ok (.irem, 1) := by decide +kernel
theorem u91_64 {d : Nat} {ls : Lo} {st : List Va} {σ : Sg} {Q : Rs → Sg → Prop} {a b : Int} (h : (-2147483648 ≤ a ∧ a ≤ 2147483647) ∧ 0 < b ∧ b ≤ 2147483647) : Wx d 91 64 ls (vi b :: vi a :: st) σ Q ↔ Wx d 91 65 ls (vi (Int.tmod a b) :: st) σ Q := u_irem d91_64 h
theorem d91_65 : decode (mB 91) 65 = .ok (.istore 4, 2) := by decide +kernel
theorem u91_65 {d : Nat} {ls : Lo} {st : List Va} {σ : Sg} {Q : Rs → Sg → Prop} {z : Int} : Wx d 91 65 ls (vi z :: st) σ Q ↔ Wx d 91 67 (lset ls 4 (vi z)) st σ Q := u_istore d91_65 (by decide)
theorem d91_67 : decode (mB 91) 67 = .ok (.aload_n 0, 1) := by decide +kernel
theorem u91_67 {d : Nat} {ls : Lo} {st : List Va} {σ : Sg} {Q : Rs → Sg → Prop} : Wx d 91 67 ls st σ Q ↔ Lr (lget ls 0) (fun z => Wx d 91 68 ls (.inr (.inl z) :: st) σ Q) := u_aload_n d91_67
theorem d91_68 : decode (mB 91) 68 = .ok (.getfield 47, 3) := by decide +kernel
theorem u91_68 {d : Nat} {ls : Lo} {st : List Va} {σ : Sg} {Q : Rs → Sg → Prop} {g j : Nat} : Wx d 91 68 ls (vr g j :: st) σ Q ↔ isO g j 7 ∧ Wx d 91 71 ls (fvv σ g j 16 :: st) σ Q := u_get (w := (7, 16)) d91_68 rfl
theorem d91_71 : decode (mB 91) 71 = .ok (.iload_n 3, 1) := by decide +kernel
theorem u91_71 {d : Nat} {ls : Lo} {st : List Va} {σ : Sg} {Q : Rs → Sg → Prop} : Wx d 91 71 ls st σ Q ↔ Li (lget ls 3) (fun z => Wx d 91 72 ls (vi z :: st) σ Q) := u_iload_n d91_71
theorem d91_72 : decode (mB 91) 72 = .ok (.iaload, 1) := by decide +kernel
theorem u91_72 {d : Nat} {ls : Lo} {st : List Va} {σ : Sg} {Q : Rs → Sg → Prop} {z : Int} {g j : Nat} : Wx d 91 72 ls (vi z :: vr g j :: st) σ Q ↔ On (ial σ g j z) (fun x => Wx d 91 73 ls (vi x :: st) σ Q) := u_iald d91_72
theorem d91_73 : decode (mB 91) 73 = .ok (.istore 5, 2) := by decide +kernel
theorem u91_73 {d : Nat} {ls : Lo} {st : List Va} {σ : Sg} {Q : Rs → Sg → Prop} {z : Int} : Wx d 91 73 ls (vi z :: st) σ Q ↔ Wx d 91 75 (lset ls 5 (vi z)) st σ Q := u_istore d91_73 (by decide)
theorem d91_75 : decode (mB 91) 75 = .ok (.aload_n 0, 1) := by decide +kernel
theorem u91_75 {d : Nat} {ls : Lo} {st : List Va} {σ : Sg} {Q : Rs → Sg → Prop} : Wx d 91 75 ls st σ Q ↔ Lr (lget ls 0) (fun z => Wx d 91 76 ls (.inr (.inl z) :: st) σ Q) := u_aload_n d91_75
theorem d91_76 : decode (mB 91) 76 = .ok (.iload 4, 2) := by decide +kernel
theorem u91_76 {d : Nat} {ls : Lo} {st : List Va} {σ : Sg} {Q : Rs → Sg → Prop} : Wx d 91 76 ls st σ Q ↔ Li (lget ls 4) (fun z => Wx d 91 78 ls (vi z :: st) σ Q) := u_iload d91_76
theorem d91_78 : decode (mB 91) 78 = .ok (.iload 5, 2) := by decide +kernel
theorem u91_78 {d : Nat} {ls : Lo} {st : List Va} {σ : Sg} {Q : Rs → Sg → Prop} : Wx d 91 78 ls st σ Q ↔ Li (lget ls 5) (fun z => Wx d 91 80 ls (vi z :: st) σ Q) := u_iload d91_78
theorem d91_80 : decode (mB 91) 80 = .ok (.ifCond .ne 12, 3) := by decide +kernel
theorem u91_80 {d : Nat} {ls : Lo} {st : List Va} {σ : Sg} {Q : Rs → Sg → Prop} {a : Int} (h : -2147483648 ≤ a ∧ a ≤ 2147483647) : Wx d 91 80 ls (vi a :: st) σ Q ↔ if ¬ a = 0 then Wx d 91 92 ls st σ Q else Wx d 91 83 ls st σ Q := u_ifne d91_80 (by decide) h
theorem d91_83 : decode (mB 91) 83 = .ok (.aload_n 0, 1) := by decide +kernel
theorem u91_83 {d : Nat} {ls : Lo} {st : List Va} {σ : Sg} {Q : Rs → Sg → Prop} : Wx d 91 83 ls st σ Q ↔ Lr (lget ls 0) (fun z => Wx d 91 84 ls (.inr (.inl z) :: st) σ Q) := u_aload_n d91_83
theorem d91_84 : decode (mB 91) 84 = .ok (.iload 4, 2) := by decide +kernel
theorem u91_84 {d : Nat} {ls : Lo} {st : List Va} {σ : Sg} {Q : Rs → Sg → Prop} : Wx d 91 84 ls st σ Q ↔ Li (lget ls 4) (fun z => Wx d 91 86 ls (vi z :: st) σ Q) := u_iload d91_84
theorem d91_86 : decode (mB 91) 86 = .ok (.invokevirtual 122, 3) := by decide +kernel
theorem u91_86 {d : Nat} {ls : Lo} {st : List Va} {σ : Sg} {Q : Rs → Sg → Prop} {g j : Nat} {a1 : Va} : Wx (d + 1) 91 86 ls (a1 :: vr g j :: st) σ Q ↔ (isO g j 7 ∧ st.length ≤ 4 ∧ nlg [a1] = true) ∧ Wm d 76 [vr g j, a1] σ (Kc (d + 1) 91 89 ls st Q) := u_inv1 d91_86 rfl rfl rfl
theorem d91_89 : decode (mB 91) 89 = .ok (.goto 24, 3) := by decide +kernel
theorem u91_89 {d : Nat} {ls : Lo} {st : List Va} {σ : Sg} {Q : Rs → Sg → Prop} : Wx d 91 89 ls st σ Q ↔ Wx d 91 113 ls st σ Q := u_goto d91_89 (by decide)
theorem d91_92 : decode (mB 91) 92 = .ok (.iload 5, 2) := by decide +kernel
theorem u91_92 {d : Nat} {ls : Lo} {st : List Va} {σ : Sg} {Q : Rs → Sg → Prop} : Wx d 91 92 ls st σ Q ↔ Li (lget ls 5) (fun z => Wx d 91 94 ls (vi z :: st) σ Q) := u_iload d91_92
theorem d91_94 : decode (mB 91) 94 = .ok (.iconst 1, 1) := by decide +kernel
theorem u91_94 {d : Nat} {ls : Lo} {st : List Va} {σ : Sg} {Q : Rs → Sg → Prop} : Wx d 91 94 ls st σ Q ↔ Wx d 91 95 ls (vi 1 :: st) σ Q := u_iconst d91_94
theorem d91_95 : decode (mB 91) 95 = .ok (.if_icmp .ne 7, 3) := by decide +kernel
theorem u91_95 {d : Nat} {ls : Lo} {st : List Va} {σ : Sg} {Q : Rs → Sg → Prop} {a b : Int} (h : -2147483648 ≤ a ∧ a ≤ 2147483647) (h2 : -2147483648 ≤ b ∧ b ≤ 2147483647) : Wx d 91 95 ls (vi b :: vi a :: st) σ Q ↔ if ¬ a = b then Wx d 91 102 ls st σ Q else Wx d 91 98 ls st σ Q := u_icne d91_95 (by decide) h h2
theorem d91_98 : decode (mB 91) 98 = .ok (.iconst 1, 1) := by decide +kernel
theorem u91_98 {d : Nat} {ls : Lo} {st : List Va} {σ : Sg} {Q : Rs → Sg → Prop} : Wx d 91 98 ls st σ Q ↔ Wx d 91 99 ls (vi 1 :: st) σ Q := u_iconst d91_98
theorem d91_99 : decode (mB 91) 99 = .ok (.goto 14, 3) := by decide +kernel
theorem u91_99 {d : Nat} {ls : Lo} {st : List Va} {σ : Sg} {Q : Rs → Sg → Prop} : Wx d 91 99 ls st σ Q ↔ Wx d 91 113 ls st σ Q := u_goto d91_99 (by decide)
theorem d91_102 : decode (mB 91) 102 = .ok (.iload 5, 2) := by decide +kernel
theorem u91_102 {d : Nat} {ls : Lo} {st : List Va} {σ : Sg} {Q : Rs → Sg → Prop} : Wx d 91 102 ls st σ Q ↔ Li (lget ls 5) (fun z => Wx d 91 104 ls (vi z :: st) σ Q) := u_iload d91_102
theorem d91_104 : decode (mB 91) 104 = .ok (.iconst 2, 1) := by decide +kernel
theorem u91_104 {d : Nat} {ls : Lo} {st : List Va} {σ : Sg} {Q : Rs → Sg → Prop} : Wx d 91 104 ls st σ Q ↔ Wx d 91 105 ls (vi 2 :: st) σ Q := u_iconst d91_104
theorem d91_105 : decode (mB 91) 105 = .ok (.if_icmp .ne 7, 3) := by decide +kernel
theorem u91_105 {d : Nat} {ls : Lo} {st : List Va} {σ : Sg} {Q : Rs → Sg → Prop} {a b : Int} (h : -2147483648 ≤ a ∧ a ≤ 2147483647) (h2 : -2147483648 ≤ b ∧ b ≤ 2147483647) : Wx d 91 105 ls (vi b :: vi a :: st) σ Q ↔ if ¬ a = b then Wx d 91 112 ls st σ Q else Wx d 91 108 ls st σ Q := u_icne d91_105 (by decide) h h2
theorem d91_108 : decode (mB 91) 108 = .ok (.iconst (-1), 1) := by decide +kernel
theorem u91_108 {d : Nat} {ls : Lo} {st : List Va} {σ : Sg} {Q : Rs → Sg → Prop} : Wx d 91 108 ls st σ Q ↔ Wx d 91 109 ls (vi (-1) :: st) σ Q := u_iconst d91_108
theorem d91_109 : decode (mB 91) 109 = .ok (.goto 4, 3) := by decide +kernel
theorem u91_109 {d : Nat} {ls : Lo} {st : List Va} {σ : Sg} {Q : Rs → Sg → Prop} : Wx d 91 109 ls st σ Q ↔ Wx d 91 113 ls st σ Q := u_goto d91_109 (by decide)
theorem d91_112 : decode (mB 91) 112 = .ok (.iconst 0, 1) := by decide +kernel
theorem u91_112 {d : Nat} {ls : Lo} {st : List Va} {σ : Sg} {Q : Rs → Sg → Prop} : Wx d 91 112 ls st σ Q ↔ Wx d 91 113 ls (vi 0 :: st) σ Q := u_iconst d91_112
theorem d91_113 : decode (mB 91) 113 = .ok (.invokevirtual 160, 3) := by decide +kernel
theorem u91_113 {d : Nat} {ls : Lo} {st : List Va} {σ : Sg} {Q : Rs → Sg → Prop} {g j : Nat} {a1 a2 : Va} : Wx (d + 1) 91 113 ls (a2 :: a1 :: vr g j :: st) σ Q ↔ (isO g j 7 ∧ st.length ≤ 4 ∧ nlg [a2, a1] = true) ∧ Wm d 89 [vr g j, a1, a2] σ (Kc (d + 1) 91 116 ls st Q) := u_inv2 d91_113 rfl rfl rfl
theorem d91_116 : decode (mB 91) 116 = .ok (.aload_n 0, 1) := by decide +kernel
theorem u91_116 {d : Nat} {ls : Lo} {st : List Va} {σ : Sg} {Q : Rs → Sg → Prop} : Wx d 91 116 ls st σ Q ↔ Lr (lget ls 0) (fun z => Wx d 91 117 ls (.inr (.inl z) :: st) σ Q) := u_aload_n d91_116
theorem d91_117 : decode (mB 91) 117 = .ok (.aload_n 0, 1) := by decide +kernel
theorem u91_117 {d : Nat} {ls : Lo} {st : List Va} {σ : Sg} {Q : Rs → Sg → Prop} : Wx d 91 117 ls st σ Q ↔ Lr (lget ls 0) (fun z => Wx d 91 118 ls (.inr (.inl z) :: st) σ Q) := u_aload_n d91_117
theorem d91_118 : decode (mB 91) 118 = .ok (.getfield 44, 3) := by decide +kernel
theorem u91_118 {d : Nat} {ls : Lo} {st : List Va} {σ : Sg} {Q : Rs → Sg → Prop} {g j : Nat} : Wx d 91 118 ls (vr g j :: st) σ Q ↔ isO g j 7 ∧ Wx d 91 121 ls (fvv σ g j 15 :: st) σ Q := u_get (w := (7, 15)) d91_118 rfl
theorem d91_121 : decode (mB 91) 121 = .ok (.iload_n 3, 1) := by decide +kernel
theorem u91_121 {d : Nat} {ls : Lo} {st : List Va} {σ : Sg} {Q : Rs → Sg → Prop} : Wx d 91 121 ls st σ Q ↔ Li (lget ls 3) (fun z => Wx d 91 122 ls (vi z :: st) σ Q) := u_iload_n d91_121
theorem d91_122 : decode (mB 91) 122 = .ok (.iaload, 1) := by decide +kernel
theorem u91_122 {d : Nat} {ls : Lo} {st : List Va} {σ : Sg} {Q : Rs → Sg → Prop} {z : Int} {g j : Nat} : Wx d 91 122 ls (vi z :: vr g j :: st) σ Q ↔ On (ial σ g j z) (fun x => Wx d 91 123 ls (vi x :: st) σ Q) := u_iald d91_122
theorem d91_123 : decode (mB 91) 123 = .ok (.iconst 5, 1) := by decide +kernel
theorem u91_123 {d : Nat} {ls : Lo} {st : List Va} {σ : Sg} {Q : Rs → Sg → Prop} : Wx d 91 123 ls st σ Q ↔ Wx d 91 124 ls (vi 5 :: st) σ Q := u_iconst d91_123
theorem d91_124 : decode (mB 91) 124 = .ok (.if_icmp .ne 24, 3) := by decide +kernel
theorem u91_124 {d : Nat} {ls : Lo} {st : List Va} {σ : Sg} {Q : Rs → Sg → Prop} {a b : Int} (h : -2147483648 ≤ a ∧ a ≤ 2147483647) (h2 : -2147483648 ≤ b ∧ b ≤ 2147483647) : Wx d 91 124 ls (vi b :: vi a :: st) σ Q ↔ if ¬ a = b then Wx d 91 148 ls st σ Q else Wx d 91 127 ls st σ Q := u_icne d91_124 (by decide) h h2
theorem d91_127 : decode (mB 91) 127 = .ok (.iload_n 2, 1) := by decide +kernel
theorem u91_127 {d : Nat} {ls : Lo} {st : List Va} {σ : Sg} {Q : Rs → Sg → Prop} : Wx d 91 127 ls st σ Q ↔ Li (lget ls 2) (fun z => Wx d 91 128 ls (vi z :: st) σ Q) := u_iload_n d91_127
theorem d91_128 : decode (mB 91) 128 = .ok (.ifCond .eq 14, 3) := by decide +kernel
theorem u91_128 {d : Nat} {ls : Lo} {st : List Va} {σ : Sg} {Q : Rs → Sg → Prop} {a : Int} (h : -2147483648 ≤ a ∧ a ≤ 2147483647) : Wx d 91 128 ls (vi a :: st) σ Q ↔ if a = 0 then Wx d 91 142 ls st σ Q else Wx d 91 131 ls st σ Q := u_ifeq d91_128 (by decide) h
theorem d91_131 : decode (mB 91) 131 = .ok (.iload_n 2, 1) := by decide +kernel
theorem u91_131 {d : Nat} {ls : Lo} {st : List Va} {σ : Sg} {Q : Rs → Sg → Prop} : Wx d 91 131 ls st σ Q ↔ Li (lget ls 2) (fun z => Wx d 91 132 ls (vi z :: st) σ Q) := u_iload_n d91_131
theorem d91_132 : decode (mB 91) 132 = .ok (.iconst 3, 1) := by decide +kernel
theorem u91_132 {d : Nat} {ls : Lo} {st : List Va} {σ : Sg} {Q : Rs → Sg → Prop} : Wx d 91 132 ls st σ Q ↔ Wx d 91 133 ls (vi 3 :: st) σ Q := u_iconst d91_132
theorem d91_133 : decode (mB 91) 133 = .ok (.if_icmp .eq 9, 3) := by decide +kernel
theorem u91_133 {d : Nat} {ls : Lo} {st : List Va} {σ : Sg} {Q : Rs → Sg → Prop} {a b : Int} (h : -2147483648 ≤ a ∧ a ≤ 2147483647) (h2 : -2147483648 ≤ b ∧ b ≤ 2147483647) : Wx d 91 133 ls (vi b :: vi a :: st) σ Q ↔ if a = b then Wx d 91 142 ls st σ Q else Wx d 91 136 ls st σ Q := u_iceq d91_133 (by decide) h h2
theorem d91_136 : decode (mB 91) 136 = .ok (.iload_n 2, 1) := by decide +kernel
theorem u91_136 {d : Nat} {ls : Lo} {st : List Va} {σ : Sg} {Q : Rs → Sg → Prop} : Wx d 91 136 ls st σ Q ↔ Li (lget ls 2) (fun z => Wx d 91 137 ls (vi z :: st) σ Q) := u_iload_n d91_136
theorem d91_137 : decode (mB 91) 137 = .ok (.bipush 7, 2) := by decide +kernel
theorem u91_137 {d : Nat} {ls : Lo} {st : List Va} {σ : Sg} {Q : Rs → Sg → Prop} : Wx d 91 137 ls st σ Q ↔ Wx d 91 139 ls (vi 7 :: st) σ Q := u_bipush d91_137 (by decide)
theorem d91_139 : decode (mB 91) 139 = .ok (.if_icmp .ne 9, 3) := by decide +kernel
theorem u91_139 {d : Nat} {ls : Lo} {st : List Va} {σ : Sg} {Q : Rs → Sg → Prop} {a b : Int} (h : -2147483648 ≤ a ∧ a ≤ 2147483647) (h2 : -2147483648 ≤ b ∧ b ≤ 2147483647) : Wx d 91 139 ls (vi b :: vi a :: st) σ Q ↔ if ¬ a = b then Wx d 91 148 ls st σ Q else Wx d 91 142 ls st σ Q := u_icne d91_139 (by decide) h h2
theorem d91_142 : decode (mB 91) 142 = .ok (.iload_n 3, 1) := by decide +kernel
theorem u91_142 {d : Nat} {ls : Lo} {st : List Va} {σ : Sg} {Q : Rs → Sg → Prop} : Wx d 91 142 ls st σ Q ↔ Li (lget ls 3) (fun z => Wx d 91 143 ls (vi z :: st) σ Q) := u_iload_n d91_142
theorem d91_143 : decode (mB 91) 143 = .ok (.iconst 1, 1) := by decide +kernel
theorem u91_143 {d : Nat} {ls : Lo} {st : List Va} {σ : Sg} {Q : Rs → Sg → Prop} : Wx d 91 143 ls st σ Q ↔ Wx d 91 144 ls (vi 1 :: st) σ Q := u_iconst d91_143
theorem d91_144 : decode (mB 91) 144 = .ok (.iadd, 1) := by decide +kernel
theorem u91_144 {d : Nat} {ls : Lo} {st : List Va} {σ : Sg} {Q : Rs → Sg → Prop} {a b : Int} : Wx d 91 144 ls (vi b :: vi a :: st) σ Q ↔ Wx d 91 145 ls (vi (a + b) :: st) σ Q := u_iadd d91_144
theorem d91_145 : decode (mB 91) 145 = .ok (.goto 7, 3) := by decide +kernel
theorem u91_145 {d : Nat} {ls : Lo} {st : List Va} {σ : Sg} {Q : Rs → Sg → Prop} : Wx d 91 145 ls st σ Q ↔ Wx d 91 152 ls st σ Q := u_goto d91_145 (by decide)
theorem d91_148 : decode (mB 91) 148 = .ok (.aload_n 0, 1) := by decide +kernel
theorem u91_148 {d : Nat} {ls : Lo} {st : List Va} {σ : Sg} {Q : Rs → Sg → Prop} : Wx d 91 148 ls st σ Q ↔ Lr (lget ls 0) (fun z => Wx d 91 149 ls (.inr (.inl z) :: st) σ Q) := u_aload_n d91_148
theorem d91_149 : decode (mB 91) 149 = .ok (.getfield 163, 3) := by decide +kernel
theorem u91_149 {d : Nat} {ls : Lo} {st : List Va} {σ : Sg} {Q : Rs → Sg → Prop} {g j : Nat} : Wx d 91 149 ls (vr g j :: st) σ Q ↔ isO g j 7 ∧ Wx d 91 152 ls (fvv σ g j 20 :: st) σ Q := u_get (w := (7, 20)) d91_149 rfl
theorem d91_152 : decode (mB 91) 152 = .ok (.putfield 163, 3) := by decide +kernel
theorem u91_152 {d : Nat} {ls : Lo} {st : List Va} {σ : Sg} {Q : Rs → Sg → Prop} {z : Int} {g j : Nat} : Wx d 91 152 ls (vi z :: vr g j :: st) σ Q ↔ (isO g j 7 ∧ rf g j 20 = none) ∧ Wx d 91 155 ls st (up σ g j 20 z) Q := u_put (w := (7, 20)) d91_152 rfl rfl rfl
theorem d91_155 : decode (mB 91) 155 = .ok (.iinc 3 1, 3) := by decide +kernel
theorem u91_155 {d : Nat} {ls : Lo} {st : List Va} {σ : Sg} {Q : Rs → Sg → Prop} : Wx d 91 155 ls st σ Q ↔ Li (lget ls 3) (fun z => Wx d 91 158 (lset ls 3 (vi (z + 1))) st σ Q) := u_iinc d91_155 (by decide)
theorem d91_158 : decode (mB 91) 158 = .ok (.goto (-119), 3) := by decide +kernel
theorem u91_158 {d : Nat} {ls : Lo} {st : List Va} {σ : Sg} {Q : Rs → Sg → Prop} : Wx d 91 158 ls st σ Q ↔ Wx d 91 39 ls st σ Q := u_goto d91_158 (by decide)
theorem d91_161 : decode (mB 91) 161 = .ok (.aload_n 0, 1) := by decide +kernel
theorem u91_161 {d : Nat} {ls : Lo} {st : List Va} {σ : Sg} {Q : Rs → Sg → Prop} : Wx d 91 161 ls st σ Q ↔ Lr (lget ls 0) (fun z => Wx d 91 162 ls (.inr (.inl z) :: st) σ Q) := u_aload_n d91_161
theorem d91_162 : decode (mB 91) 162 = .ok (.aload_n 0, 1) := by decide +kernel
theorem u91_162 {d : Nat} {ls : Lo} {st : List Va} {σ : Sg} {Q : Rs → Sg → Prop} : Wx d 91 162 ls st σ Q ↔ Lr (lget ls 0) (fun z => Wx d 91 163 ls (.inr (.inl z) :: st) σ Q) := u_aload_n d91_162
theorem d91_163 : decode (mB 91) 163 = .ok (.bipush 7, 2) := by decide +kernel
theorem u91_163 {d : Nat} {ls : Lo} {st : List Va} {σ : Sg} {Q : Rs → Sg → Prop} : Wx d 91 163 ls st σ Q ↔ Wx d 91 165 ls (vi 7 :: st) σ Q := u_bipush d91_163 (by decide)
theorem d91_165 : decode (mB 91) 165 = .ok (.invokevirtual 166, 3) := by decide +kernel
theorem u91_165 {d : Nat} {ls : Lo} {st : List Va} {σ : Sg} {Q : Rs → Sg → Prop} {g j : Nat} {a1 : Va} : Wx (d + 1) 91 165 ls (a1 :: vr g j :: st) σ Q ↔ (isO g j 7 ∧ st.length ≤ 4 ∧ nlg [a1] = true) ∧ Wm d 90 [vr g j, a1] σ (Kc (d + 1) 91 168 ls st Q) := u_inv1 d91_165 rfl rfl rfl
theorem d91_168 : decode (mB 91) 168 = .ok (.putfield 169, 3) := by decide +kernel
theorem u91_168 {d : Nat} {ls : Lo} {st : List Va} {σ : Sg} {Q : Rs → Sg → Prop} {z : Int} {g j : Nat} : Wx d 91 168 ls (vi z :: vr g j :: st) σ Q ↔ (isO g j 7 ∧ rf g j 21 = none) ∧ Wx d 91 171 ls st (up σ g j 21 z) Q := u_put (w := (7, 21)) d91_168 rfl rfl rfl
theorem d91_171 : decode (mB 91) 171 = .ok (.aload_n 0, 1) := by decide +kernel
theorem u91_171 {d : Nat} {ls : Lo} {st : List Va} {σ : Sg} {Q : Rs → Sg → Prop} : Wx d 91 171 ls st σ Q ↔ Lr (lget ls 0) (fun z => Wx d 91 172 ls (.inr (.inl z) :: st) σ Q) := u_aload_n d91_171
theorem d91_172 : decode (mB 91) 172 = .ok (.getfield 169, 3) := by decide +kernel
theorem u91_172 {d : Nat} {ls : Lo} {st : List Va} {σ : Sg} {Q : Rs → Sg → Prop} {g j : Nat} : Wx d 91 172 ls (vr g j :: st) σ Q ↔ isO g j 7 ∧ Wx d 91 175 ls (fvv σ g j 21 :: st) σ Q := u_get (w := (7, 21)) d91_172 rfl
theorem d91_175 : decode (mB 91) 175 = .ok (.ifCond .ge 88, 3) := by decide +kernel
theorem u91_175 {d : Nat} {ls : Lo} {st : List Va} {σ : Sg} {Q : Rs → Sg → Prop} {a : Int} (h : -2147483648 ≤ a ∧ a ≤ 2147483647) : Wx d 91 175 ls (vi a :: st) σ Q ↔ if 0 ≤ a then Wx d 91 263 ls st σ Q else Wx d 91 178 ls st σ Q := u_ifge d91_175 (by decide) h
theorem d91_178 : decode (mB 91) 178 = .ok (.aload_n 0, 1) := by decide +kernel
theorem u91_178 {d : Nat} {ls : Lo} {st : List Va} {σ : Sg} {Q : Rs → Sg → Prop} : Wx d 91 178 ls st σ Q ↔ Lr (lget ls 0) (fun z => Wx d 91 179 ls (.inr (.inl z) :: st) σ Q) := u_aload_n d91_178
theorem d91_179 : decode (mB 91) 179 = .ok (.iconst 4, 1) := by decide +kernel
theorem u91_179 {d : Nat} {ls : Lo} {st : List Va} {σ : Sg} {Q : Rs → Sg → Prop} : Wx d 91 179 ls st σ Q ↔ Wx d 91 180 ls (vi 4 :: st) σ Q := u_iconst d91_179
theorem d91_180 : decode (mB 91) 180 = .ok (.invokevirtual 166, 3) := by decide +kernel
theorem u91_180 {d : Nat} {ls : Lo} {st : List Va} {σ : Sg} {Q : Rs → Sg → Prop} {g j : Nat} {a1 : Va} : Wx (d + 1) 91 180 ls (a1 :: vr g j :: st) σ Q ↔ (isO g j 7 ∧ st.length ≤ 4 ∧ nlg [a1] = true) ∧ Wm d 90 [vr g j, a1] σ (Kc (d + 1) 91 183 ls st Q) := u_inv1 d91_180 rfl rfl rfl
theorem d91_183 : decode (mB 91) 183 = .ok (.ifCond .lt 7, 3) := by decide +kernel
theorem u91_183 {d : Nat} {ls : Lo} {st : List Va} {σ : Sg} {Q : Rs → Sg → Prop} {a : Int} (h : -2147483648 ≤ a ∧ a ≤ 2147483647) : Wx d 91 183 ls (vi a :: st) σ Q ↔ if a < 0 then Wx d 91 190 ls st σ Q else Wx d 91 186 ls st σ Q := u_iflt d91_183 (by decide) h
theorem d91_186 : decode (mB 91) 186 = .ok (.iconst 1, 1) := by decide +kernel
theorem u91_186 {d : Nat} {ls : Lo} {st : List Va} {σ : Sg} {Q : Rs → Sg → Prop} : Wx d 91 186 ls st σ Q ↔ Wx d 91 187 ls (vi 1 :: st) σ Q := u_iconst d91_186
theorem d91_187 : decode (mB 91) 187 = .ok (.goto 4, 3) := by decide +kernel
theorem u91_187 {d : Nat} {ls : Lo} {st : List Va} {σ : Sg} {Q : Rs → Sg → Prop} : Wx d 91 187 ls st σ Q ↔ Wx d 91 191 ls st σ Q := u_goto d91_187 (by decide)
theorem d91_190 : decode (mB 91) 190 = .ok (.iconst 0, 1) := by decide +kernel
theorem u91_190 {d : Nat} {ls : Lo} {st : List Va} {σ : Sg} {Q : Rs → Sg → Prop} : Wx d 91 190 ls st σ Q ↔ Wx d 91 191 ls (vi 0 :: st) σ Q := u_iconst d91_190
theorem d91_191 : decode (mB 91) 191 = .ok (.istore_n 3, 1) := by decide +kernel
theorem u91_191 {d : Nat} {ls : Lo} {st : List Va} {σ : Sg} {Q : Rs → Sg → Prop} {z : Int} : Wx d 91 191 ls (vi z :: st) σ Q ↔ Wx d 91 192 (lset ls 3 (vi z)) st σ Q := u_istore_n d91_191 (by decide)
theorem d91_192 : decode (mB 91) 192 = .ok (.aload_n 0, 1) := by decide +kernel
theorem u91_192 {d : Nat} {ls : Lo} {st : List Va} {σ : Sg} {Q : Rs → Sg → Prop} : Wx d 91 192 ls st σ Q ↔ Lr (lget ls 0) (fun z => Wx d 91 193 ls (.inr (.inl z) :: st) σ Q) := u_aload_n d91_192
theorem d91_193 : decode (mB 91) 193 = .ok (.aload_n 0, 1) := by decide +kernel
theorem u91_193 {d : Nat} {ls : Lo} {st : List Va} {σ : Sg} {Q : Rs → Sg → Prop} : Wx d 91 193 ls st σ Q ↔ Lr (lget ls 0) (fun z => Wx d 91 194 ls (.inr (.inl z) :: st) σ Q) := u_aload_n d91_193
theorem d91_194 : decode (mB 91) 194 = .ok (.bipush 6, 2) := by decide +kernel
theorem u91_194 {d : Nat} {ls : Lo} {st : List Va} {σ : Sg} {Q : Rs → Sg → Prop} : Wx d 91 194 ls st σ Q ↔ Wx d 91 196 ls (vi 6 :: st) σ Q := u_bipush d91_194 (by decide)
theorem d91_196 : decode (mB 91) 196 = .ok (.invokevirtual 166, 3) := by decide +kernel
theorem u91_196 {d : Nat} {ls : Lo} {st : List Va} {σ : Sg} {Q : Rs → Sg → Prop} {g j : Nat} {a1 : Va} : Wx (d + 1) 91 196 ls (a1 :: vr g j :: st) σ Q ↔ (isO g j 7 ∧ st.length ≤ 4 ∧ nlg [a1] = true) ∧ Wm d 90 [vr g j, a1] σ (Kc (d + 1) 91 199 ls st Q) := u_inv1 d91_196 rfl rfl rfl
theorem d91_199 : decode (mB 91) 199 = .ok (.ifCond .lt 19, 3) := by decide +kernel
theorem u91_199 {d : Nat} {ls : Lo} {st : List Va} {σ : Sg} {Q : Rs → Sg → Prop} {a : Int} (h : -2147483648 ≤ a ∧ a ≤ 2147483647) : Wx d 91 199 ls (vi a :: st) σ Q ↔ if a < 0 then Wx d 91 218 ls st σ Q else Wx d 91 202 ls st σ Q := u_iflt d91_199 (by decide) h
theorem d91_202 : decode (mB 91) 202 = .ok (.aload_n 0, 1) := by decide +kernel
theorem u91_202 {d : Nat} {ls : Lo} {st : List Va} {σ : Sg} {Q : Rs → Sg → Prop} : Wx d 91 202 ls st σ Q ↔ Lr (lget ls 0) (fun z => Wx d 91 203 ls (.inr (.inl z) :: st) σ Q) := u_aload_n d91_202
theorem d91_203 : decode (mB 91) 203 = .ok (.iconst 5, 1) := by decide +kernel
theorem u91_203 {d : Nat} {ls : Lo} {st : List Va} {σ : Sg} {Q : Rs → Sg → Prop} : Wx d 91 203 ls st σ Q ↔ Wx d 91 204 ls (vi 5 :: st) σ Q := u_iconst d91_203
theorem d91_204 : decode (mB 91) 204 = .ok (.invokevirtual 166, 3) := by decide +kernel
theorem u91_204 {d : Nat} {ls : Lo} {st : List Va} {σ : Sg} {Q : Rs → Sg → Prop} {g j : Nat} {a1 : Va} : Wx (d + 1) 91 204 ls (a1 :: vr g j :: st) σ Q ↔ (isO g j 7 ∧ st.length ≤ 4 ∧ nlg [a1] = true) ∧ Wm d 90 [vr g j, a1] σ (Kc (d + 1) 91 207 ls st Q) := u_inv1 d91_204 rfl rfl rfl
theorem d91_207 : decode (mB 91) 207 = .ok (.ifCond .lt 11, 3) := by decide +kernel
theorem u91_207 {d : Nat} {ls : Lo} {st : List Va} {σ : Sg} {Q : Rs → Sg → Prop} {a : Int} (h : -2147483648 ≤ a ∧ a ≤ 2147483647) : Wx d 91 207 ls (vi a :: st) σ Q ↔ if a < 0 then Wx d 91 218 ls st σ Q else Wx d 91 210 ls st σ Q := u_iflt d91_207 (by decide) h
theorem d91_210 : decode (mB 91) 210 = .ok (.aload_n 0, 1) := by decide +kernel
theorem u91_210 {d : Nat} {ls : Lo} {st : List Va} {σ : Sg} {Q : Rs → Sg → Prop} : Wx d 91 210 ls st σ Q ↔ Lr (lget ls 0) (fun z => Wx d 91 211 ls (.inr (.inl z) :: st) σ Q) := u_aload_n d91_210
theorem d91_211 : decode (mB 91) 211 = .ok (.iconst 5, 1) := by decide +kernel
theorem u91_211 {d : Nat} {ls : Lo} {st : List Va} {σ : Sg} {Q : Rs → Sg → Prop} : Wx d 91 211 ls st σ Q ↔ Wx d 91 212 ls (vi 5 :: st) σ Q := u_iconst d91_211
theorem d91_212 : decode (mB 91) 212 = .ok (.invokevirtual 166, 3) := by decide +kernel
theorem u91_212 {d : Nat} {ls : Lo} {st : List Va} {σ : Sg} {Q : Rs → Sg → Prop} {g j : Nat} {a1 : Va} : Wx (d + 1) 91 212 ls (a1 :: vr g j :: st) σ Q ↔ (isO g j 7 ∧ st.length ≤ 4 ∧ nlg [a1] = true) ∧ Wm d 90 [vr g j, a1] σ (Kc (d + 1) 91 215 ls st Q) := u_inv1 d91_212 rfl rfl rfl
theorem d91_215 : decode (mB 91) 215 = .ok (.goto 45, 3) := by decide +kernel
theorem u91_215 {d : Nat} {ls : Lo} {st : List Va} {σ : Sg} {Q : Rs → Sg → Prop} : Wx d 91 215 ls st σ Q ↔ Wx d 91 260 ls st σ Q := u_goto d91_215 (by decide)
theorem d91_218 : decode (mB 91) 218 = .ok (.iload_n 3, 1) := by decide +kernel
theorem u91_218 {d : Nat} {ls : Lo} {st : List Va} {σ : Sg} {Q : Rs → Sg → Prop} : Wx d 91 218 ls st σ Q ↔ Li (lget ls 3) (fun z => Wx d 91 219 ls (vi z :: st) σ Q) := u_iload_n d91_218
theorem d91_219 : decode (mB 91) 219 = .ok (.ifCond .eq 19, 3) := by decide +kernel
theorem u91_219 {d : Nat} {ls : Lo} {st : List Va} {σ : Sg} {Q : Rs → Sg → Prop} {a : Int} (h : -2147483648 ≤ a ∧ a ≤ 2147483647) : Wx d 91 219 ls (vi a :: st) σ Q ↔ if a = 0 then Wx d 91 238 ls st σ Q else Wx d 91 222 ls st σ Q := u_ifeq d91_219 (by decide) h
theorem d91_222 : decode (mB 91) 222 = .ok (.aload_n 0, 1) := by decide +kernel
theorem u91_222 {d : Nat} {ls : Lo} {st : List Va} {σ : Sg} {Q : Rs → Sg → Prop} : Wx d 91 222 ls st σ Q ↔ Lr (lget ls 0) (fun z => Wx d 91 223 ls (.inr (.inl z) :: st) σ Q) := u_aload_n d91_222
theorem d91_223 : decode (mB 91) 223 = .ok (.iconst 3, 1) := by decide +kernel
theorem u91_223 {d : Nat} {ls : Lo} {st : List Va} {σ : Sg} {Q : Rs → Sg → Prop} : Wx d 91 223 ls st σ Q ↔ Wx d 91 224 ls (vi 3 :: st) σ Q := u_iconst d91_223
theorem d91_224 : decode (mB 91) 224 = .ok (.invokevirtual 166, 3) := by decide +kernel
theorem u91_224 {d : Nat} {ls : Lo} {st : List Va} {σ : Sg} {Q : Rs → Sg → Prop} {g j : Nat} {a1 : Va} : Wx (d + 1) 91 224 ls (a1 :: vr g j :: st) σ Q ↔ (isO g j 7 ∧ st.length ≤ 4 ∧ nlg [a1] = true) ∧ Wm d 90 [vr g j, a1] σ (Kc (d + 1) 91 227 ls st Q) := u_inv1 d91_224 rfl rfl rfl
theorem d91_227 : decode (mB 91) 227 = .ok (.ifCond .lt 11, 3) := by decide +kernel
theorem u91_227 {d : Nat} {ls : Lo} {st : List Va} {σ : Sg} {Q : Rs → Sg → Prop} {a : Int} (h : -2147483648 ≤ a ∧ a ≤ 2147483647) : Wx d 91 227 ls (vi a :: st) σ Q ↔ if a < 0 then Wx d 91 238 ls st σ Q else Wx d 91 230 ls st σ Q := u_iflt d91_227 (by decide) h
theorem d91_230 : decode (mB 91) 230 = .ok (.aload_n 0, 1) := by decide +kernel
theorem u91_230 {d : Nat} {ls : Lo} {st : List Va} {σ : Sg} {Q : Rs → Sg → Prop} : Wx d 91 230 ls st σ Q ↔ Lr (lget ls 0) (fun z => Wx d 91 231 ls (.inr (.inl z) :: st) σ Q) := u_aload_n d91_230
theorem d91_231 : decode (mB 91) 231 = .ok (.iconst 3, 1) := by decide +kernel
theorem u91_231 {d : Nat} {ls : Lo} {st : List Va} {σ : Sg} {Q : Rs → Sg → Prop} : Wx d 91 231 ls st σ Q ↔ Wx d 91 232 ls (vi 3 :: st) σ Q := u_iconst d91_231
theorem d91_232 : decode (mB 91) 232 = .ok (.invokevirtual 166, 3) := by decide +kernel
theorem u91_232 {d : Nat} {ls : Lo} {st : List Va} {σ : Sg} {Q : Rs → Sg → Prop} {g j : Nat} {a1 : Va} : Wx (d + 1) 91 232 ls (a1 :: vr g j :: st) σ Q ↔ (isO g j 7 ∧ st.length ≤ 4 ∧ nlg [a1] = true) ∧ Wm d 90 [vr g j, a1] σ (Kc (d + 1) 91 235 ls st Q) := u_inv1 d91_232 rfl rfl rfl
theorem d91_235 : decode (mB 91) 235 = .ok (.goto 25, 3) := by decide +kernel
theorem u91_235 {d : Nat} {ls : Lo} {st : List Va} {σ : Sg} {Q : Rs → Sg → Prop} : Wx d 91 235 ls st σ Q ↔ Wx d 91 260 ls st σ Q := u_goto d91_235 (by decide)
theorem d91_238 : decode (mB 91) 238 = .ok (.iload_n 3, 1) := by decide +kernel
theorem u91_238 {d : Nat} {ls : Lo} {st : List Va} {σ : Sg} {Q : Rs → Sg → Prop} : Wx d 91 238 ls st σ Q ↔ Li (lget ls 3) (fun z => Wx d 91 239 ls (vi z :: st) σ Q) := u_iload_n d91_238
theorem d91_239 : decode (mB 91) 239 = .ok (.ifCond .eq 20, 3) := by decide +kernel
theorem u91_239 {d : Nat} {ls : Lo} {st : List Va} {σ : Sg} {Q : Rs → Sg → Prop} {a : Int} (h : -2147483648 ≤ a ∧ a ≤ 2147483647) : Wx d 91 239 ls (vi a :: st) σ Q ↔ if a = 0 then Wx d 91 259 ls st σ Q else Wx d 91 242 ls st σ Q := u_ifeq d91_239 (by decide) h
theorem d91_242 : decode (mB 91) 242 = .ok (.aload_n 0, 1) := by decide +kernel
theorem u91_242 {d : Nat} {ls : Lo} {st : List Va} {σ : Sg} {Q : Rs → Sg → Prop} : Wx d 91 242 ls st σ Q ↔ Lr (lget ls 0) (fun z => Wx d 91 243 ls (.inr (.inl z) :: st) σ Q) := u_aload_n d91_242
theorem d91_243 : decode (mB 91) 243 = .ok (.iconst 2, 1) := by decide +kernel
theorem u91_243 {d : Nat} {ls : Lo} {st : List Va} {σ : Sg} {Q : Rs → Sg → Prop} : Wx d 91 243 ls st σ Q ↔ Wx d 91 244 ls (vi 2 :: st) σ Q := u_iconst d91_243
theorem d91_244 : decode (mB 91) 244 = .ok (.invokevirtual 166, 3) := by decide +kernel
theorem u91_244 {d : Nat} {ls : Lo} {st : List Va} {σ : Sg} {Q : Rs → Sg → Prop} {g j : Nat} {a1 : Va} : Wx (d + 1) 91 244 ls (a1 :: vr g j :: st) σ Q ↔ (isO g j 7 ∧ st.length ≤ 4 ∧ nlg [a1] = true) ∧ Wm d 90 [vr g j, a1] σ (Kc (d + 1) 91 247 ls st Q) := u_inv1 d91_244 rfl rfl rfl
theorem d91_247 : decode (mB 91) 247 = .ok (.ifCond .lt 12, 3) := by decide +kernel
theorem u91_247 {d : Nat} {ls : Lo} {st : List Va} {σ : Sg} {Q : Rs → Sg → Prop} {a : Int} (h : -2147483648 ≤ a ∧ a ≤ 2147483647) : Wx d 91 247 ls (vi a :: st) σ Q ↔ if a < 0 then Wx d 91 259 ls st σ Q else Wx d 91 250 ls st σ Q := u_iflt d91_247 (by decide) h
theorem d91_250 : decode (mB 91) 250 = .ok (.aload_n 0, 1) := by decide +kernel
theorem u91_250 {d : Nat} {ls : Lo} {st : List Va} {σ : Sg} {Q : Rs → Sg → Prop} : Wx d 91 250 ls st σ Q ↔ Lr (lget ls 0) (fun z => Wx d 91 251 ls (.inr (.inl z) :: st) σ Q) := u_aload_n d91_250
theorem d91_251 : decode (mB 91) 251 = .ok (.getfield 53, 3) := by decide +kernel
theorem u91_251 {d : Nat} {ls : Lo} {st : List Va} {σ : Sg} {Q : Rs → Sg → Prop} {g j : Nat} : Wx d 91 251 ls (vr g j :: st) σ Q ↔ isO g j 7 ∧ Wx d 91 254 ls (fvv σ g j 19 :: st) σ Q := u_get (w := (7, 19)) d91_251 rfl
theorem d91_254 : decode (mB 91) 254 = .ok (.iconst 0, 1) := by decide +kernel
theorem u91_254 {d : Nat} {ls : Lo} {st : List Va} {σ : Sg} {Q : Rs → Sg → Prop} : Wx d 91 254 ls st σ Q ↔ Wx d 91 255 ls (vi 0 :: st) σ Q := u_iconst d91_254
theorem d91_255 : decode (mB 91) 255 = .ok (.iaload, 1) := by decide +kernel
theorem u91_255 {d : Nat} {ls : Lo} {st : List Va} {σ : Sg} {Q : Rs → Sg → Prop} {z : Int} {g j : Nat} : Wx d 91 255 ls (vi z :: vr g j :: st) σ Q ↔ On (ial σ g j z) (fun x => Wx d 91 256 ls (vi x :: st) σ Q) := u_iald d91_255
theorem d91_256 : decode (mB 91) 256 = .ok (.goto 4, 3) := by decide +kernel
theorem u91_256 {d : Nat} {ls : Lo} {st : List Va} {σ : Sg} {Q : Rs → Sg → Prop} : Wx d 91 256 ls st σ Q ↔ Wx d 91 260 ls st σ Q := u_goto d91_256 (by decide)
theorem d91_259 : decode (mB 91) 259 = .ok (.iconst (-1), 1) := by decide +kernel
theorem u91_259 {d : Nat} {ls : Lo} {st : List Va} {σ : Sg} {Q : Rs → Sg → Prop} : Wx d 91 259 ls st σ Q ↔ Wx d 91 260 ls (vi (-1) :: st) σ Q := u_iconst d91_259
theorem d91_260 : decode (mB 91) 260 = .ok (.putfield 169, 3) := by decide +kernel
theorem u91_260 {d : Nat} {ls : Lo} {st : List Va} {σ : Sg} {Q : Rs → Sg → Prop} {z : Int} {g j : Nat} : Wx d 91 260 ls (vi z :: vr g j :: st) σ Q ↔ (isO g j 7 ∧ rf g j 21 = none) ∧ Wx d 91 263 ls st (up σ g j 21 z) Q := u_put (w := (7, 21)) d91_260 rfl rfl rfl
theorem d91_263 : decode (mB 91) 263 = .ok (.aload_n 0, 1) := by decide +kernel
theorem u91_263 {d : Nat} {ls : Lo} {st : List Va} {σ : Sg} {Q : Rs → Sg → Prop} : Wx d 91 263 ls st σ Q ↔ Lr (lget ls 0) (fun z => Wx d 91 264 ls (.inr (.inl z) :: st) σ Q) := u_aload_n d91_263
theorem d91_264 : decode (mB 91) 264 = .ok (.aload_n 0, 1) := by decide +kernel
theorem u91_264 {d : Nat} {ls : Lo} {st : List Va} {σ : Sg} {Q : Rs → Sg → Prop} : Wx d 91 264 ls st σ Q ↔ Lr (lget ls 0) (fun z => Wx d 91 265 ls (.inr (.inl z) :: st) σ Q) := u_aload_n d91_264
theorem d91_265 : decode (mB 91) 265 = .ok (.iconst 3, 1) := by decide +kernel
theorem u91_265 {d : Nat} {ls : Lo} {st : List Va} {σ : Sg} {Q : Rs → Sg → Prop} : Wx d 91 265 ls st σ Q ↔ Wx d 91 266 ls (vi 3 :: st) σ Q := u_iconst d91_265
theorem d91_266 : decode (mB 91) 266 = .ok (.invokevirtual 166, 3) := by decide +kernel
theorem u91_266 {d : Nat} {ls : Lo} {st : List Va} {σ : Sg} {Q : Rs → Sg → Prop} {g j : Nat} {a1 : Va} : Wx (d + 1) 91 266 ls (a1 :: vr g j :: st) σ Q ↔ (isO g j 7 ∧ st.length ≤ 4 ∧ nlg [a1] = true) ∧ Wm d 90 [vr g j, a1] σ (Kc (d + 1) 91 269 ls st Q) := u_inv1 d91_266 rfl rfl rfl
theorem d91_269 : decode (mB 91) 269 = .ok (.putfield 172, 3) := by decide +kernel
theorem u91_269 {d : Nat} {ls : Lo} {st : List Va} {σ : Sg} {Q : Rs → Sg → Prop} {z : Int} {g j : Nat} : Wx d 91 269 ls (vi z :: vr g j :: st) σ Q ↔ (isO g j 7 ∧ rf g j 22 = none) ∧ Wx d 91 272 ls st (up σ g j 22 z) Q := u_put (w := (7, 22)) d91_269 rfl rfl rfl
theorem d91_272 : decode (mB 91) 272 = .ok (.aload_n 0, 1) := by decide +kernel
theorem u91_272 {d : Nat} {ls : Lo} {st : List Va} {σ : Sg} {Q : Rs → Sg → Prop} : Wx d 91 272 ls st σ Q ↔ Lr (lget ls 0) (fun z => Wx d 91 273 ls (.inr (.inl z) :: st) σ Q) := u_aload_n d91_272
theorem d91_273 : decode (mB 91) 273 = .ok (.bipush 7, 2) := by decide +kernel
theorem u91_273 {d : Nat} {ls : Lo} {st : List Va} {σ : Sg} {Q : Rs → Sg → Prop} : Wx d 91 273 ls st σ Q ↔ Wx d 91 275 ls (vi 7 :: st) σ Q := u_bipush d91_273 (by decide)
theorem d91_275 : decode (mB 91) 275 = .ok (.invokevirtual 166, 3) := by decide +kernel
theorem u91_275 {d : Nat} {ls : Lo} {st : List Va} {σ : Sg} {Q : Rs → Sg → Prop} {g j : Nat} {a1 : Va} : Wx (d + 1) 91 275 ls (a1 :: vr g j :: st) σ Q ↔ (isO g j 7 ∧ st.length ≤ 4 ∧ nlg [a1] = true) ∧ Wm d 90 [vr g j, a1] σ (Kc (d + 1) 91 278 ls st Q) := u_inv1 d91_275 rfl rfl rfl
theorem d91_278 : decode (mB 91) 278 = .ok (.ifCond .ge 32, 3) := by decide +kernel
theorem u91_278 {d : Nat} {ls : Lo} {st : List Va} {σ : Sg} {Q : Rs → Sg → Prop} {a : Int} (h : -2147483648 ≤ a ∧ a ≤ 2147483647) : Wx d 91 278 ls (vi a :: st) σ Q ↔ if 0 ≤ a then Wx d 91 310 ls st σ Q else Wx d 91 281 ls st σ Q := u_ifge d91_278 (by decide) h
theorem d91_281 : decode (mB 91) 281 = .ok (.aload_n 0, 1) := by decide +kernel
theorem u91_281 {d : Nat} {ls : Lo} {st : List Va} {σ : Sg} {Q : Rs → Sg → Prop} : Wx d 91 281 ls st σ Q ↔ Lr (lget ls 0) (fun z => Wx d 91 282 ls (.inr (.inl z) :: st) σ Q) := u_aload_n d91_281
theorem d91_282 : decode (mB 91) 282 = .ok (.bipush 6, 2) := by decide +kernel
theorem u91_282 {d : Nat} {ls : Lo} {st : List Va} {σ : Sg} {Q : Rs → Sg → Prop} : Wx d 91 282 ls st σ Q ↔ Wx d 91 284 ls (vi 6 :: st) σ Q := u_bipush d91_282 (by decide)
theorem d91_284 : decode (mB 91) 284 = .ok (.invokevirtual 166, 3) := by decide +kernel
theorem u91_284 {d : Nat} {ls : Lo} {st : List Va} {σ : Sg} {Q : Rs → Sg → Prop} {g j : Nat} {a1 : Va} : Wx (d + 1) 91 284 ls (a1 :: vr g j :: st) σ Q ↔ (isO g j 7 ∧ st.length ≤ 4 ∧ nlg [a1] = true) ∧ Wm d 90 [vr g j, a1] σ (Kc (d + 1) 91 287 ls st Q) := u_inv1 d91_284 rfl rfl rfl
theorem d91_287 : decode (mB 91) 287 = .ok (.ifCond .lt 11, 3) := by decide +kernel
theorem u91_287 {d : Nat} {ls : Lo} {st : List Va} {σ : Sg} {Q : Rs → Sg → Prop} {a : Int} (h : -2147483648 ≤ a ∧ a ≤ 2147483647) : Wx d 91 287 ls (vi a :: st) σ Q ↔ if a < 0 then Wx d 91 298 ls st σ Q else Wx d 91 290 ls st σ Q := u_iflt d91_287 (by decide) h
theorem d91_290 : decode (mB 91) 290 = .ok (.aload_n 0, 1) := by decide +kernel
theorem u91_290 {d : Nat} {ls : Lo} {st : List Va} {σ : Sg} {Q : Rs → Sg → Prop} : Wx d 91 290 ls st σ Q ↔ Lr (lget ls 0) (fun z => Wx d 91 291 ls (.inr (.inl z) :: st) σ Q) := u_aload_n d91_290
theorem d91_291 : decode (mB 91) 291 = .ok (.iconst 5, 1) := by decide +kernel
theorem u91_291 {d : Nat} {ls : Lo} {st : List Va} {σ : Sg} {Q : Rs → Sg → Prop} : Wx d 91 291 ls st σ Q ↔ Wx d 91 292 ls (vi 5 :: st) σ Q := u_iconst d91_291
theorem d91_292 : decode (mB 91) 292 = .ok (.invokevirtual 166, 3) := by decide +kernel
theorem u91_292 {d : Nat} {ls : Lo} {st : List Va} {σ : Sg} {Q : Rs → Sg → Prop} {g j : Nat} {a1 : Va} : Wx (d + 1) 91 292 ls (a1 :: vr g j :: st) σ Q ↔ (isO g j 7 ∧ st.length ≤ 4 ∧ nlg [a1] = true) ∧ Wm d 90 [vr g j, a1] σ (Kc (d + 1) 91 295 ls st Q) := u_inv1 d91_292 rfl rfl rfl
theorem d91_295 : decode (mB 91) 295 = .ok (.ifCond .ge 15, 3) := by decide +kernel
theorem u91_295 {d : Nat} {ls : Lo} {st : List Va} {σ : Sg} {Q : Rs → Sg → Prop} {a : Int} (h : -2147483648 ≤ a ∧ a ≤ 2147483647) : Wx d 91 295 ls (vi a :: st) σ Q ↔ if 0 ≤ a then Wx d 91 310 ls st σ Q else Wx d 91 298 ls st σ Q := u_ifge d91_295 (by decide) h
theorem d91_298 : decode (mB 91) 298 = .ok (.aload_n 0, 1) := by decide +kernel
theorem u91_298 {d : Nat} {ls : Lo} {st : List Va} {σ : Sg} {Q : Rs → Sg → Prop} : Wx d 91 298 ls st σ Q ↔ Lr (lget ls 0) (fun z => Wx d 91 299 ls (.inr (.inl z) :: st) σ Q) := u_aload_n d91_298
theorem d91_299 : decode (mB 91) 299 = .ok (.iconst 4, 1) := by decide +kernel
theorem u91_299 {d : Nat} {ls : Lo} {st : List Va} {σ : Sg} {Q : Rs → Sg → Prop} : Wx d 91 299 ls st σ Q ↔ Wx d 91 300 ls (vi 4 :: st) σ Q := u_iconst d91_299
theorem d91_300 : decode (mB 91) 300 = .ok (.invokevirtual 166, 3) := by decide +kernel
theorem u91_300 {d : Nat} {ls : Lo} {st : List Va} {σ : Sg} {Q : Rs → Sg → Prop} {g j : Nat} {a1 : Va} : Wx (d + 1) 91 300 ls (a1 :: vr g j :: st) σ Q ↔ (isO g j 7 ∧ st.length ≤ 4 ∧ nlg [a1] = true) ∧ Wm d 90 [vr g j, a1] σ (Kc (d + 1) 91 303 ls st Q) := u_inv1 d91_300 rfl rfl rfl
theorem d91_303 : decode (mB 91) 303 = .ok (.ifCond .lt 7, 3) := by decide +kernel
theorem u91_303 {d : Nat} {ls : Lo} {st : List Va} {σ : Sg} {Q : Rs → Sg → Prop} {a : Int} (h : -2147483648 ≤ a ∧ a ≤ 2147483647) : Wx d 91 303 ls (vi a :: st) σ Q ↔ if a < 0 then Wx d 91 310 ls st σ Q else Wx d 91 306 ls st σ Q := u_iflt d91_303 (by decide) h
theorem d91_306 : decode (mB 91) 306 = .ok (.iconst 1, 1) := by decide +kernel
theorem u91_306 {d : Nat} {ls : Lo} {st : List Va} {σ : Sg} {Q : Rs → Sg → Prop} : Wx d 91 306 ls st σ Q ↔ Wx d 91 307 ls (vi 1 :: st) σ Q := u_iconst d91_306
theorem d91_307 : decode (mB 91) 307 = .ok (.goto 4, 3) := by decide +kernel
theorem u91_307 {d : Nat} {ls : Lo} {st : List Va} {σ : Sg} {Q : Rs → Sg → Prop} : Wx d 91 307 ls st σ Q ↔ Wx d 91 311 ls st σ Q := u_goto d91_307 (by decide)
theorem d91_310 : decode (mB 91) 310 = .ok (.iconst 0, 1) := by decide +kernel
theorem u91_310 {d : Nat} {ls : Lo} {st : List Va} {σ : Sg} {Q : Rs → Sg → Prop} : Wx d 91 310 ls st σ Q ↔ Wx d 91 311 ls (vi 0 :: st) σ Q := u_iconst d91_310
theorem d91_311 : decode (mB 91) 311 = .ok (.istore_n 3, 1) := by decide +kernel
theorem u91_311 {d : Nat} {ls : Lo} {st : List Va} {σ : Sg} {Q : Rs → Sg → Prop} {z : Int} : Wx d 91 311 ls (vi z :: st) σ Q ↔ Wx d 91 312 (lset ls 3 (vi z)) st σ Q := u_istore_n d91_311 (by decide)
theorem d91_312 : decode (mB 91) 312 = .ok (.aload_n 0, 1) := by decide +kernel
theorem u91_312 {d : Nat} {ls : Lo} {st : List Va} {σ : Sg} {Q : Rs → Sg → Prop} : Wx d 91 312 ls st σ Q ↔ Lr (lget ls 0) (fun z => Wx d 91 313 ls (.inr (.inl z) :: st) σ Q) := u_aload_n d91_312
theorem d91_313 : decode (mB 91) 313 = .ok (.iload_n 3, 1) := by decide +kernel
theorem u91_313 {d : Nat} {ls : Lo} {st : List Va} {σ : Sg} {Q : Rs → Sg → Prop} : Wx d 91 313 ls st σ Q ↔ Li (lget ls 3) (fun z => Wx d 91 314 ls (vi z :: st) σ Q) := u_iload_n d91_313
theorem d91_314 : decode (mB 91) 314 = .ok (.ifCond .eq 7, 3) := by decide +kernel
theorem u91_314 {d : Nat} {ls : Lo} {st : List Va} {σ : Sg} {Q : Rs → Sg → Prop} {a : Int} (h : -2147483648 ≤ a ∧ a ≤ 2147483647) : Wx d 91 314 ls (vi a :: st) σ Q ↔ if a = 0 then Wx d 91 321 ls st σ Q else Wx d 91 317 ls st σ Q := u_ifeq d91_314 (by decide) h
theorem d91_317 : decode (mB 91) 317 = .ok (.iconst (-1), 1) := by decide +kernel
theorem u91_317 {d : Nat} {ls : Lo} {st : List Va} {σ : Sg} {Q : Rs → Sg → Prop} : Wx d 91 317 ls st σ Q ↔ Wx d 91 318 ls (vi (-1) :: st) σ Q := u_iconst d91_317
theorem d91_318 : decode (mB 91) 318 = .ok (.goto 7, 3) := by decide +kernel
theorem u91_318 {d : Nat} {ls : Lo} {st : List Va} {σ : Sg} {Q : Rs → Sg → Prop} : Wx d 91 318 ls st σ Q ↔ Wx d 91 325 ls st σ Q := u_goto d91_318 (by decide)
theorem d91_321 : decode (mB 91) 321 = .ok (.aload_n 0, 1) := by decide +kernel
theorem u91_321 {d : Nat} {ls : Lo} {st : List Va} {σ : Sg} {Q : Rs → Sg → Prop} : Wx d 91 321 ls st σ Q ↔ Lr (lget ls 0) (fun z => Wx d 91 322 ls (.inr (.inl z) :: st) σ Q) := u_aload_n d91_321
theorem d91_322 : decode (mB 91) 322 = .ok (.getfield 172, 3) := by decide +kernel
theorem u91_322 {d : Nat} {ls : Lo} {st : List Va} {σ : Sg} {Q : Rs → Sg → Prop} {g j : Nat} : Wx d 91 322 ls (vr g j :: st) σ Q ↔ isO g j 7 ∧ Wx d 91 325 ls (fvv σ g j 22 :: st) σ Q := u_get (w := (7, 22)) d91_322 rfl
theorem d91_325 : decode (mB 91) 325 = .ok (.putfield 172, 3) := by decide +kernel
theorem u91_325 {d : Nat} {ls : Lo} {st : List Va} {σ : Sg} {Q : Rs → Sg → Prop} {z : Int} {g j : Nat} : Wx d 91 325 ls (vi z :: vr g j :: st) σ Q ↔ (isO g j 7 ∧ rf g j 22 = none) ∧ Wx d 91 328 ls st (up σ g j 22 z) Q := u_put (w := (7, 22)) d91_325 rfl rfl rfl
theorem d91_328 : decode (mB 91) 328 = .ok (.return_, 1) := by decide +kernel
theorem u91_328 {d : Nat} {ls : Lo} {σ : Sg} {Q : Rs → Sg → Prop} : Wx d 91 328 ls [] σ Q ↔ Q (.inl none) σ := u_vret d91_328 rfl
/-! 92: FiguredBassModel.isWhole(I)Z -/
theorem d92_0 : decode (mB 92) 0 = .ok (.aload_n 0, 1) := by decide +kernel
theorem u92_0 {d : Nat} {ls : Lo} {st : List Va} {σ : Sg} {Q : Rs → Sg → Prop} : Wx d 92 0 ls st σ Q ↔ Lr (lget ls 0) (fun z => Wx d 92 1 ls (.inr (.inl z) :: st) σ Q) := u_aload_n d92_0
theorem d92_1 : decode (mB 92) 1 = .ok (.getfield 26, 3) := by decide +kernel
theorem u92_1 {d : Nat} {ls : Lo} {st : List Va} {σ : Sg} {Q : Rs → Sg → Prop} {g j : Nat} : Wx d 92 1 ls (vr g j :: st) σ Q ↔ isO g j 7 ∧ Wx d 92 4 ls (fvv σ g j 8 :: st) σ Q := u_get (w := (7, 8)) d92_1 rfl
theorem d92_4 : decode (mB 92) 4 = .ok (.iload_n 1, 1) := by decide +kernel
theorem u92_4 {d : Nat} {ls : Lo} {st : List Va} {σ : Sg} {Q : Rs → Sg → Prop} : Wx d 92 4 ls st σ Q ↔ Li (lget ls 1) (fun z => Wx d 92 5 ls (vi z :: st) σ Q) := u_iload_n d92_4
theorem d92_5 : decode (mB 92) 5 = .ok (.iaload, 1) := by decide +kernel
theorem u92_5 {d : Nat} {ls : Lo} {st : List Va} {σ : Sg} {Q : Rs → Sg → Prop} {z : Int} {g j : Nat} : Wx d 92 5 ls (vi z :: vr g j :: st) σ Q ↔ On (ial σ g j z) (fun x => Wx d 92 6 ls (vi x :: st) σ Q) := u_iald d92_5
theorem d92_6 : decode (mB 92) 6 = .ok (.ifCond .ne 5, 3) := by decide +kernel
theorem u92_6 {d : Nat} {ls : Lo} {st : List Va} {σ : Sg} {Q : Rs → Sg → Prop} {a : Int} (h : -2147483648 ≤ a ∧ a ≤ 2147483647) : Wx d 92 6 ls (vi a :: st) σ Q ↔ if ¬ a = 0 then Wx d 92 11 ls st σ Q else Wx d 92 9 ls st σ Q := u_ifne d92_6 (by decide) h
theorem d92_9 : decode (mB 92) 9 = .ok (.iconst 0, 1) := by decide +kernel
theorem u92_9 {d : Nat} {ls : Lo} {st : List Va} {σ : Sg} {Q : Rs → Sg → Prop} : Wx d 92 9 ls st σ Q ↔ Wx d 92 10 ls (vi 0 :: st) σ Q := u_iconst d92_9
theorem d92_10 : decode (mB 92) 10 = .ok (.ireturn, 1) := by decide +kernel
theorem u92_10 {d : Nat} {ls : Lo} {σ : Sg} {Q : Rs → Sg → Prop} {z : Int} (h : z = 0 ∨ z = 1) : Wx d 92 10 ls [vi z] σ Q ↔ Q (.inl (some (vi z))) σ := u_zret d92_10 rfl h
theorem d92_11 : decode (mB 92) 11 = .ok (.aload_n 0, 1) := by decide +kernel
theorem u92_11 {d : Nat} {ls : Lo} {st : List Va} {σ : Sg} {Q : Rs → Sg → Prop} : Wx d 92 11 ls st σ Q ↔ Lr (lget ls 0) (fun z => Wx d 92 12 ls (.inr (.inl z) :: st) σ Q) := u_aload_n d92_11
theorem d92_12 : decode (mB 92) 12 = .ok (.iload_n 1, 1) := by decide +kernel
theorem u92_12 {d : Nat} {ls : Lo} {st : List Va} {σ : Sg} {Q : Rs → Sg → Prop} : Wx d 92 12 ls st σ Q ↔ Li (lget ls 1) (fun z => Wx d 92 13 ls (vi z :: st) σ Q) := u_iload_n d92_12
theorem d92_13 : decode (mB 92) 13 = .ok (.invokevirtual 175, 3) := by decide +kernel
theorem u92_13 {d : Nat} {ls : Lo} {st : List Va} {σ : Sg} {Q : Rs → Sg → Prop} {g j : Nat} {a1 : Va} : Wx (d + 1) 92 13 ls (a1 :: vr g j :: st) σ Q ↔ (isO g j 7 ∧ st.length ≤ 4 ∧ nlg [a1] = true) ∧ Wm d 91 [vr g j, a1] σ (Kc (d + 1) 92 16 ls st Q) := u_inv1 d92_13 rfl rfl rfl
theorem d92_16 : decode (mB 92) 16 = .ok (.iconst 1, 1) := by decide +kernel
theorem u92_16 {d : Nat} {ls : Lo} {st : List Va} {σ : Sg} {Q : Rs → Sg → Prop} : Wx d 92 16 ls st σ Q ↔ Wx d 92 17 ls (vi 1 :: st) σ Q := u_iconst d92_16
theorem d92_17 : decode (mB 92) 17 = .ok (.istore_n 2, 1) := by decide +kernel
theorem u92_17 {d : Nat} {ls : Lo} {st : List Va} {σ : Sg} {Q : Rs → Sg → Prop} {z : Int} : Wx d 92 17 ls (vi z :: st) σ Q ↔ Wx d 92 18 (lset ls 2 (vi z)) st σ Q := u_istore_n d92_17 (by decide)
theorem d92_18 : decode (mB 92) 18 = .ok (.iconst 0, 1) := by decide +kernel
theorem u92_18 {d : Nat} {ls : Lo} {st : List Va} {σ : Sg} {Q : Rs → Sg → Prop} : Wx d 92 18 ls st σ Q ↔ Wx d 92 19 ls (vi 0 :: st) σ Q := u_iconst d92_18
theorem d92_19 : decode (mB 92) 19 = .ok (.istore_n 3, 1) := by decide +kernel
theorem u92_19 {d : Nat} {ls : Lo} {st : List Va} {σ : Sg} {Q : Rs → Sg → Prop} {z : Int} : Wx d 92 19 ls (vi z :: st) σ Q ↔ Wx d 92 20 (lset ls 3 (vi z)) st σ Q := u_istore_n d92_19 (by decide)
theorem d92_20 : decode (mB 92) 20 = .ok (.iload_n 3, 1) := by decide +kernel
theorem u92_20 {d : Nat} {ls : Lo} {st : List Va} {σ : Sg} {Q : Rs → Sg → Prop} : Wx d 92 20 ls st σ Q ↔ Li (lget ls 3) (fun z => Wx d 92 21 ls (vi z :: st) σ Q) := u_iload_n d92_20
theorem d92_21 : decode (mB 92) 21 = .ok (.aload_n 0, 1) := by decide +kernel
theorem u92_21 {d : Nat} {ls : Lo} {st : List Va} {σ : Sg} {Q : Rs → Sg → Prop} : Wx d 92 21 ls st σ Q ↔ Lr (lget ls 0) (fun z => Wx d 92 22 ls (.inr (.inl z) :: st) σ Q) := u_aload_n d92_21
theorem d92_22 : decode (mB 92) 22 = .ok (.getfield 153, 3) := by decide +kernel
theorem u92_22 {d : Nat} {ls : Lo} {st : List Va} {σ : Sg} {Q : Rs → Sg → Prop} {g j : Nat} : Wx d 92 22 ls (vr g j :: st) σ Q ↔ isO g j 7 ∧ Wx d 92 25 ls (fvv σ g j 17 :: st) σ Q := u_get (w := (7, 17)) d92_22 rfl
theorem d92_25 : decode (mB 92) 25 = .ok (.if_icmp .ge 50, 3) := by decide +kernel
theorem u92_25 {d : Nat} {ls : Lo} {st : List Va} {σ : Sg} {Q : Rs → Sg → Prop} {a b : Int} (h : -2147483648 ≤ a ∧ a ≤ 2147483647) (h2 : -2147483648 ≤ b ∧ b ≤ 2147483647) : Wx d 92 25 ls (vi b :: vi a :: st) σ Q ↔ if b ≤ a then Wx d 92 75 ls st σ Q else Wx d 92 28 ls st σ Q := u_icge d92_25 (by decide) h h2
theorem d92_28 : decode (mB 92) 28 = .ok (.iconst 0, 1) := by decide +kernel
theorem u92_28 {d : Nat} {ls : Lo} {st : List Va} {σ : Sg} {Q : Rs → Sg → Prop} : Wx d 92 28 ls st σ Q ↔ Wx d 92 29 ls (vi 0 :: st) σ Q := u_iconst d92_28
theorem d92_29 : decode (mB 92) 29 = .ok (.istore 4, 2) := by decide +kernel
theorem u92_29 {d : Nat} {ls : Lo} {st : List Va} {σ : Sg} {Q : Rs → Sg → Prop} {z : Int} : Wx d 92 29 ls (vi z :: st) σ Q ↔ Wx d 92 31 (lset ls 4 (vi z)) st σ Q := u_istore d92_29 (by decide)
theorem d92_31 : decode (mB 92) 31 = .ok (.iload 4, 2) := by decide +kernel
theorem u92_31 {d : Nat} {ls : Lo} {st : List Va} {σ : Sg} {Q : Rs → Sg → Prop} : Wx d 92 31 ls st σ Q ↔ Li (lget ls 4) (fun z => Wx d 92 33 ls (vi z :: st) σ Q) := u_iload d92_31
theorem d92_33 : decode (mB 92) 33 = .ok (.iload_n 3, 1) := by decide +kernel
theorem u92_33 {d : Nat} {ls : Lo} {st : List Va} {σ : Sg} {Q : Rs → Sg → Prop} : Wx d 92 33 ls st σ Q ↔ Li (lget ls 3) (fun z => Wx d 92 34 ls (vi z :: st) σ Q) := u_iload_n d92_33
theorem d92_34 : decode (mB 92) 34 = .ok (.if_icmp .ge 35, 3) := by decide +kernel
theorem u92_34 {d : Nat} {ls : Lo} {st : List Va} {σ : Sg} {Q : Rs → Sg → Prop} {a b : Int} (h : -2147483648 ≤ a ∧ a ≤ 2147483647) (h2 : -2147483648 ≤ b ∧ b ≤ 2147483647) : Wx d 92 34 ls (vi b :: vi a :: st) σ Q ↔ if b ≤ a then Wx d 92 69 ls st σ Q else Wx d 92 37 ls st σ Q := u_icge d92_34 (by decide) h h2
theorem d92_37 : decode (mB 92) 37 = .ok (.iload_n 2, 1) := by decide +kernel
theorem u92_37 {d : Nat} {ls : Lo} {st : List Va} {σ : Sg} {Q : Rs → Sg → Prop} : Wx d 92 37 ls st σ Q ↔ Li (lget ls 2) (fun z => Wx d 92 38 ls (vi z :: st) σ Q) := u_iload_n d92_37
theorem d92_38 : decode (mB 92) 38 = .ok (.ifCond .eq 23, 3) := by decide +kernel
theorem u92_38 {d : Nat} {ls : Lo} {st : List Va} {σ : Sg} {Q : Rs → Sg → Prop} {a : Int} (h : -2147483648 ≤ a ∧ a ≤ 2147483647) : Wx d 92 38 ls (vi a :: st) σ Q ↔ if a = 0 then Wx d 92 61 ls st σ Q else Wx d 92 41 ls st σ Q := u_ifeq d92_38 (by decide) h
theorem d92_41 : decode (mB 92) 41 = .ok (.aload_n 0, 1) := by decide +kernel
theorem u92_41 {d : Nat} {ls : Lo} {st : List Va} {σ : Sg} {Q : Rs → Sg → Prop} : Wx d 92 41 ls st σ Q ↔ Lr (lget ls 0) (fun z => Wx d 92 42 ls (.inr (.inl z) :: st) σ Q) := u_aload_n d92_41
theorem d92_42 : decode (mB 92) 42 = .ok (.getfield 53, 3) := by decide +kernel
theorem u92_42 {d : Nat} {ls : Lo} {st : List Va} {σ : Sg} {Q : Rs → Sg → Prop} {g j : Nat} : Wx d 92 42 ls (vr g j :: st) σ Q ↔ isO g j 7 ∧ Wx d 92 45 ls (fvv σ g j 19 :: st) σ Q := u_get (w := (7, 19)) d92_42 rfl
theorem d92_45 : decode (mB 92) 45 = .ok (.iload_n 3, 1) := by decide +kernel
theorem u92_45 {d : Nat} {ls : Lo} {st : List Va} {σ : Sg} {Q : Rs → Sg → Prop} : Wx d 92 45 ls st σ Q ↔ Li (lget ls 3) (fun z => Wx d 92 46 ls (vi z :: st) σ Q) := u_iload_n d92_45
theorem d92_46 : decode (mB 92) 46 = .ok (.iaload, 1) := by decide +kernel
theorem u92_46 {d : Nat} {ls : Lo} {st : List Va} {σ : Sg} {Q : Rs → Sg → Prop} {z : Int} {g j : Nat} : Wx d 92 46 ls (vi z :: vr g j :: st) σ Q ↔ On (ial σ g j z) (fun x => Wx d 92 47 ls (vi x :: st) σ Q) := u_iald d92_46
theorem d92_47 : decode (mB 92) 47 = .ok (.aload_n 0, 1) := by decide +kernel
theorem u92_47 {d : Nat} {ls : Lo} {st : List Va} {σ : Sg} {Q : Rs → Sg → Prop} : Wx d 92 47 ls st σ Q ↔ Lr (lget ls 0) (fun z => Wx d 92 48 ls (.inr (.inl z) :: st) σ Q) := u_aload_n d92_47
theorem d92_48 : decode (mB 92) 48 = .ok (.getfield 53, 3) := by decide +kernel
theorem u92_48 {d : Nat} {ls : Lo} {st : List Va} {σ : Sg} {Q : Rs → Sg → Prop} {g j : Nat} : Wx d 92 48 ls (vr g j :: st) σ Q ↔ isO g j 7 ∧ Wx d 92 51 ls (fvv σ g j 19 :: st) σ Q := u_get (w := (7, 19)) d92_48 rfl
theorem d92_51 : decode (mB 92) 51 = .ok (.iload 4, 2) := by decide +kernel
theorem u92_51 {d : Nat} {ls : Lo} {st : List Va} {σ : Sg} {Q : Rs → Sg → Prop} : Wx d 92 51 ls st σ Q ↔ Li (lget ls 4) (fun z => Wx d 92 53 ls (vi z :: st) σ Q) := u_iload d92_51
theorem d92_53 : decode (mB 92) 53 = .ok (.iaload, 1) := by decide +kernel
theorem u92_53 {d : Nat} {ls : Lo} {st : List Va} {σ : Sg} {Q : Rs → Sg → Prop} {z : Int} {g j : Nat} : Wx d 92 53 ls (vi z :: vr g j :: st) σ Q ↔ On (ial σ g j z) (fun x => Wx d 92 54 ls (vi x :: st) σ Q) := u_iald d92_53
theorem d92_54 : decode (mB 92) 54 = .ok (.if_icmp .eq 7, 3) := by decide +kernel
theorem u92_54 {d : Nat} {ls : Lo} {st : List Va} {σ : Sg} {Q : Rs → Sg → Prop} {a b : Int} (h : -2147483648 ≤ a ∧ a ≤ 2147483647) (h2 : -2147483648 ≤ b ∧ b ≤ 2147483647) : Wx d 92 54 ls (vi b :: vi a :: st) σ Q ↔ if a = b then Wx d 92 61 ls st σ Q else Wx d 92 57 ls st σ Q := u_iceq d92_54 (by decide) h h2
theorem d92_57 : decode (mB 92) 57 = .ok (.iconst 1, 1) := by decide +kernel
theorem u92_57 {d : Nat} {ls : Lo} {st : List Va} {σ : Sg} {Q : Rs → Sg → Prop} : Wx d 92 57 ls st σ Q ↔ Wx d 92 58 ls (vi 1 :: st) σ Q := u_iconst d92_57
theorem d92_58 : decode (mB 92) 58 = .ok (.goto 4, 3) := by decide +kernel
theorem u92_58 {d : Nat} {ls : Lo} {st : List Va} {σ : Sg} {Q : Rs → Sg → Prop} : Wx d 92 58 ls st σ Q ↔ Wx d 92 62 ls st σ Q := u_goto d92_58 (by decide)
theorem d92_61 : decode (mB 92) 61 = .ok (.iconst 0, 1) := by decide +kernel
theorem u92_61 {d : Nat} {ls : Lo} {st : List Va} {σ : Sg} {Q : Rs → Sg → Prop} : Wx d 92 61 ls st σ Q ↔ Wx d 92 62 ls (vi 0 :: st) σ Q := u_iconst d92_61
theorem d92_62 : decode (mB 92) 62 = .ok (.istore_n 2, 1) := by decide +kernel
theorem u92_62 {d : Nat} {ls : Lo} {st : List Va} {σ : Sg} {Q : Rs → Sg → Prop} {z : Int} : Wx d 92 62 ls (vi z :: st) σ Q ↔ Wx d 92 63 (lset ls 2 (vi z)) st σ Q := u_istore_n d92_62 (by decide)
theorem d92_63 : decode (mB 92) 63 = .ok (.iinc 4 1, 3) := by decide +kernel
theorem u92_63 {d : Nat} {ls : Lo} {st : List Va} {σ : Sg} {Q : Rs → Sg → Prop} : Wx d 92 63 ls st σ Q ↔ Li (lget ls 4) (fun z => Wx d 92 66 (lset ls 4 (vi (z + 1))) st σ Q) := u_iinc d92_63 (by decide)
theorem d92_66 : decode (mB 92) 66 = .ok (.goto (-35), 3) := by decide +kernel
theorem u92_66 {d : Nat} {ls : Lo} {st : List Va} {σ : Sg} {Q : Rs → Sg → Prop} : Wx d 92 66 ls st σ Q ↔ Wx d 92 31 ls st σ Q := u_goto d92_66 (by decide)
theorem d92_69 : decode (mB 92) 69 = .ok (.iinc 3 1, 3) := by decide +kernel
theorem u92_69 {d : Nat} {ls : Lo} {st : List Va} {σ : Sg} {Q : Rs → Sg → Prop} : Wx d 92 69 ls st σ Q ↔ Li (lget ls 3) (fun z => Wx d 92 72 (lset ls 3 (vi (z + 1))) st σ Q) := u_iinc d92_69 (by decide)
theorem d92_72 : decode (mB 92) 72 = .ok (.goto (-52), 3) := by decide +kernel
theorem u92_72 {d : Nat} {ls : Lo} {st : List Va} {σ : Sg} {Q : Rs → Sg → Prop} : Wx d 92 72 ls st σ Q ↔ Wx d 92 20 ls st σ Q := u_goto d92_72 (by decide)
theorem d92_75 : decode (mB 92) 75 = .ok (.iload_n 2, 1) := by decide +kernel
theorem u92_75 {d : Nat} {ls : Lo} {st : List Va} {σ : Sg} {Q : Rs → Sg → Prop} : Wx d 92 75 ls st σ Q ↔ Li (lget ls 2) (fun z => Wx d 92 76 ls (vi z :: st) σ Q) := u_iload_n d92_75
theorem d92_76 : decode (mB 92) 76 = .ok (.ireturn, 1) := by decide +kernel
theorem u92_76 {d : Nat} {ls : Lo} {σ : Sg} {Q : Rs → Sg → Prop} {z : Int} (h : z = 0 ∨ z = 1) : Wx d 92 76 ls [vi z] σ Q ↔ Q (.inl (some (vi z))) σ := u_zret d92_76 rfl h
/-! 93: FiguredBassModel.spell(II)I -/
theorem d93_0 : decode (mB 93) 0 = .ok (.aload_n 0, 1) := by decide +kernel
theorem u93_0 {d : Nat} {ls : Lo} {st : List Va} {σ : Sg} {Q : Rs → Sg → Prop} : Wx d 93 0 ls st σ Q ↔ Lr (lget ls 0) (fun z => Wx d 93 1 ls (.inr (.inl z) :: st) σ Q) := u_aload_n d93_0
theorem d93_1 : decode (mB 93) 1 = .ok (.aload_n 0, 1) := by decide +kernel
theorem u93_1 {d : Nat} {ls : Lo} {st : List Va} {σ : Sg} {Q : Rs → Sg → Prop} : Wx d 93 1 ls st σ Q ↔ Lr (lget ls 0) (fun z => Wx d 93 2 ls (.inr (.inl z) :: st) σ Q) := u_aload_n d93_1
theorem d93_2 : decode (mB 93) 2 = .ok (.iload_n 1, 1) := by decide +kernel
theorem u93_2 {d : Nat} {ls : Lo} {st : List Va} {σ : Sg} {Q : Rs → Sg → Prop} : Wx d 93 2 ls st σ Q ↔ Li (lget ls 1) (fun z => Wx d 93 3 ls (vi z :: st) σ Q) := u_iload_n d93_2
theorem d93_3 : decode (mB 93) 3 = .ok (.invokevirtual 132, 3) := by decide +kernel
theorem u93_3 {d : Nat} {ls : Lo} {st : List Va} {σ : Sg} {Q : Rs → Sg → Prop} {g j : Nat} {a1 : Va} : Wx (d + 1) 93 3 ls (a1 :: vr g j :: st) σ Q ↔ (isO g j 7 ∧ st.length ≤ 4 ∧ nlg [a1] = true) ∧ Wm d 81 [vr g j, a1] σ (Kc (d + 1) 93 6 ls st Q) := u_inv1 d93_3 rfl rfl rfl
theorem d93_6 : decode (mB 93) 6 = .ok (.ifCond .eq 7, 3) := by decide +kernel
theorem u93_6 {d : Nat} {ls : Lo} {st : List Va} {σ : Sg} {Q : Rs → Sg → Prop} {a : Int} (h : -2147483648 ≤ a ∧ a ≤ 2147483647) : Wx d 93 6 ls (vi a :: st) σ Q ↔ if a = 0 then Wx d 93 13 ls st σ Q else Wx d 93 9 ls st σ Q := u_ifeq d93_6 (by decide) h
theorem d93_9 : decode (mB 93) 9 = .ok (.iconst 1, 1) := by decide +kernel
theorem u93_9 {d : Nat} {ls : Lo} {st : List Va} {σ : Sg} {Q : Rs → Sg → Prop} : Wx d 93 9 ls st σ Q ↔ Wx d 93 10 ls (vi 1 :: st) σ Q := u_iconst d93_9
theorem d93_10 : decode (mB 93) 10 = .ok (.goto 17, 3) := by decide +kernel
theorem u93_10 {d : Nat} {ls : Lo} {st : List Va} {σ : Sg} {Q : Rs → Sg → Prop} : Wx d 93 10 ls st σ Q ↔ Wx d 93 27 ls st σ Q := u_goto d93_10 (by decide)
theorem d93_13 : decode (mB 93) 13 = .ok (.aload_n 0, 1) := by decide +kernel
theorem u93_13 {d : Nat} {ls : Lo} {st : List Va} {σ : Sg} {Q : Rs → Sg → Prop} : Wx d 93 13 ls st σ Q ↔ Lr (lget ls 0) (fun z => Wx d 93 14 ls (.inr (.inl z) :: st) σ Q) := u_aload_n d93_13
theorem d93_14 : decode (mB 93) 14 = .ok (.getfield 26, 3) := by decide +kernel
theorem u93_14 {d : Nat} {ls : Lo} {st : List Va} {σ : Sg} {Q : Rs → Sg → Prop} {g j : Nat} : Wx d 93 14 ls (vr g j :: st) σ Q ↔ isO g j 7 ∧ Wx d 93 17 ls (fvv σ g j 8 :: st) σ Q := u_get (w := (7, 8)) d93_14 rfl
theorem d93_17 : decode (mB 93) 17 = .ok (.iload_n 1, 1) := by decide +kernel
theorem u93_17 {d : Nat} {ls : Lo} {st : List Va} {σ : Sg} {Q : Rs → Sg → Prop} : Wx d 93 17 ls st σ Q ↔ Li (lget ls 1) (fun z => Wx d 93 18 ls (vi z :: st) σ Q) := u_iload_n d93_17
theorem d93_18 : decode (mB 93) 18 = .ok (.iaload, 1) := by decide +kernel
theorem u93_18 {d : Nat} {ls : Lo} {st : List Va} {σ : Sg} {Q : Rs → Sg → Prop} {z : Int} {g j : Nat} : Wx d 93 18 ls (vi z :: vr g j :: st) σ Q ↔ On (ial σ g j z) (fun x => Wx d 93 19 ls (vi x :: st) σ Q) := u_iald d93_18
theorem d93_19 : decode (mB 93) 19 = .ok (.ifCond .ne 7, 3) := by decide +kernel
theorem u93_19 {d : Nat} {ls : Lo} {st : List Va} {σ : Sg} {Q : Rs → Sg → Prop} {a : Int} (h : -2147483648 ≤ a ∧ a ≤ 2147483647) : Wx d 93 19 ls (vi a :: st) σ Q ↔ if ¬ a = 0 then Wx d 93 26 ls st σ Q else Wx d 93 22 ls st σ Q := u_ifne d93_19 (by decide) h
theorem d93_22 : decode (mB 93) 22 = .ok (.iconst 2, 1) := by decide +kernel
theorem u93_22 {d : Nat} {ls : Lo} {st : List Va} {σ : Sg} {Q : Rs → Sg → Prop} : Wx d 93 22 ls st σ Q ↔ Wx d 93 23 ls (vi 2 :: st) σ Q := u_iconst d93_22
theorem d93_23 : decode (mB 93) 23 = .ok (.goto 4, 3) := by decide +kernel
theorem u93_23 {d : Nat} {ls : Lo} {st : List Va} {σ : Sg} {Q : Rs → Sg → Prop} : Wx d 93 23 ls st σ Q ↔ Wx d 93 27 ls st σ Q := u_goto d93_23 (by decide)
theorem d93_26 : decode (mB 93) 26 = .ok (.iconst 0, 1) := by decide +kernel
theorem u93_26 {d : Nat} {ls : Lo} {st : List Va} {σ : Sg} {Q : Rs → Sg → Prop} : Wx d 93 26 ls st σ Q ↔ Wx d 93 27 ls (vi 0 :: st) σ Q := u_iconst d93_26
theorem d93_27 : decode (mB 93) 27 = .ok (.putfield 108, 3) := by decide +kernel
theorem u93_27 {d : Nat} {ls : Lo} {st : List Va} {σ : Sg} {Q : Rs → Sg → Prop} {z : Int} {g j : Nat} : Wx d 93 27 ls (vi z :: vr g j :: st) σ Q ↔ (isO g j 7 ∧ rf g j 0 = none) ∧ Wx d 93 30 ls st (up σ g j 0 z) Q := u_put (w := (7, 0)) d93_27 rfl rfl rfl
theorem d93_30 : decode (mB 93) 30 = .ok (.aload_n 0, 1) := by decide +kernel
theorem u93_30 {d : Nat} {ls : Lo} {st : List Va} {σ : Sg} {Q : Rs → Sg → Prop} : Wx d 93 30 ls st σ Q ↔ Lr (lget ls 0) (fun z => Wx d 93 31 ls (.inr (.inl z) :: st) σ Q) := u_aload_n d93_30
theorem d93_31 : decode (mB 93) 31 = .ok (.getfield 108, 3) := by decide +kernel
theorem u93_31 {d : Nat} {ls : Lo} {st : List Va} {σ : Sg} {Q : Rs → Sg → Prop} {g j : Nat} : Wx d 93 31 ls (vr g j :: st) σ Q ↔ isO g j 7 ∧ Wx d 93 34 ls (fvv σ g j 0 :: st) σ Q := u_get (w := (7, 0)) d93_31 rfl
theorem d93_34 : decode (mB 93) 34 = .ok (.ifCond .eq 5, 3) := by decide +kernel
theorem u93_34 {d : Nat} {ls : Lo} {st : List Va} {σ : Sg} {Q : Rs → Sg → Prop} {a : Int} (h : -2147483648 ≤ a ∧ a ≤ 2147483647) : Wx d 93 34 ls (vi a :: st) σ Q ↔ if a = 0 then Wx d 93 39 ls st σ Q else Wx d 93 37 ls st σ Q := u_ifeq d93_34 (by decide) h
theorem d93_37 : decode (mB 93) 37 = .ok (.iconst 0, 1) := by decide +kernel
theorem u93_37 {d : Nat} {ls : Lo} {st : List Va} {σ : Sg} {Q : Rs → Sg → Prop} : Wx d 93 37 ls st σ Q ↔ Wx d 93 38 ls (vi 0 :: st) σ Q := u_iconst d93_37
theorem d93_38 : decode (mB 93) 38 = .ok (.ireturn, 1) := by decide +kernel
theorem u93_38 {d : Nat} {ls : Lo} {σ : Sg} {Q : Rs → Sg → Prop} {z : Int} : Wx d 93 38 ls [vi z] σ Q ↔ Q (.inl (some (vi z))) σ := u_iret d93_38 rfl
theorem d93_39 : decode (mB 93) 39 = .ok (.aload_n 0, 1) := by decide +kernel
theorem u93_39 {d : Nat} {ls : Lo} {st : List Va} {σ : Sg} {Q : Rs → Sg → Prop} : Wx d 93 39 ls st σ Q ↔ Lr (lget ls 0) (fun z => Wx d 93 40 ls (.inr (.inl z) :: st) σ Q) := u_aload_n d93_39
theorem d93_40 : decode (mB 93) 40 = .ok (.iload_n 1, 1) := by decide +kernel
theorem u93_40 {d : Nat} {ls : Lo} {st : List Va} {σ : Sg} {Q : Rs → Sg → Prop} : Wx d 93 40 ls st σ Q ↔ Li (lget ls 1) (fun z => Wx d 93 41 ls (vi z :: st) σ Q) := u_iload_n d93_40
theorem d93_41 : decode (mB 93) 41 = .ok (.invokevirtual 175, 3) := by decide +kernel
theorem u93_41 {d : Nat} {ls : Lo} {st : List Va} {σ : Sg} {Q : Rs → Sg → Prop} {g j : Nat} {a1 : Va} : Wx (d + 1) 93 41 ls (a1 :: vr g j :: st) σ Q ↔ (isO g j 7 ∧ st.length ≤ 4 ∧ nlg [a1] = true) ∧ Wm d 91 [vr g j, a1] σ (Kc (d + 1) 93 44 ls st Q) := u_inv1 d93_41 rfl rfl rfl
theorem d93_44 : decode (mB 93) 44 = .ok (.aload_n 0, 1) := by decide +kernel
theorem u93_44 {d : Nat} {ls : Lo} {st : List Va} {σ : Sg} {Q : Rs → Sg → Prop} : Wx d 93 44 ls st σ Q ↔ Lr (lget ls 0) (fun z => Wx d 93 45 ls (.inr (.inl z) :: st) σ Q) := u_aload_n d93_44
theorem d93_45 : decode (mB 93) 45 = .ok (.iload_n 2, 1) := by decide +kernel
theorem u93_45 {d : Nat} {ls : Lo} {st : List Va} {σ : Sg} {Q : Rs → Sg → Prop} : Wx d 93 45 ls st σ Q ↔ Li (lget ls 2) (fun z => Wx d 93 46 ls (vi z :: st) σ Q) := u_iload_n d93_45
theorem d93_46 : decode (mB 93) 46 = .ok (.ifCond .lt 11, 3) := by decide +kernel
theorem u93_46 {d : Nat} {ls : Lo} {st : List Va} {σ : Sg} {Q : Rs → Sg → Prop} {a : Int} (h : -2147483648 ≤ a ∧ a ≤ 2147483647) : Wx d 93 46 ls (vi a :: st) σ Q ↔ if a < 0 then Wx d 93 57 ls st σ Q else Wx d 93 49 ls st σ Q := u_iflt d93_46 (by decide) h
theorem d93_49 : decode (mB 93) 49 = .ok (.iload_n 2, 1) := by decide +kernel
theorem u93_49 {d : Nat} {ls : Lo} {st : List Va} {σ : Sg} {Q : Rs → Sg → Prop} : Wx d 93 49 ls st σ Q ↔ Li (lget ls 2) (fun z => Wx d 93 50 ls (vi z :: st) σ Q) := u_iload_n d93_49
theorem d93_50 : decode (mB 93) 50 = .ok (.aload_n 0, 1) := by decide +kernel
theorem u93_50 {d : Nat} {ls : Lo} {st : List Va} {σ : Sg} {Q : Rs → Sg → Prop} : Wx d 93 50 ls st σ Q ↔ Lr (lget ls 0) (fun z => Wx d 93 51 ls (.inr (.inl z) :: st) σ Q) := u_aload_n d93_50
theorem d93_51 : decode (mB 93) 51 = .ok (.getfield 153, 3) := by decide +kernel
theorem u93_51 {d : Nat} {ls : Lo} {st : List Va} {σ : Sg} {Q : Rs → Sg → Prop} {g j : Nat} : Wx d 93 51 ls (vr g j :: st) σ Q ↔ isO g j 7 ∧ Wx d 93 54 ls (fvv σ g j 17 :: st) σ Q := u_get (w := (7, 17)) d93_51 rfl
theorem d93_54 : decode (mB 93) 54 = .ok (.if_icmp .lt 7, 3) := by decide +kernel
theorem u93_54 {d : Nat} {ls : Lo} {st : List Va} {σ : Sg} {Q : Rs → Sg → Prop} {a b : Int} (h : -2147483648 ≤ a ∧ a ≤ 2147483647) (h2 : -2147483648 ≤ b ∧ b ≤ 2147483647) : Wx d 93 54 ls (vi b :: vi a :: st) σ Q ↔ if a < b then Wx d 93 61 ls st σ Q else Wx d 93 57 ls st σ Q := u_iclt d93_54 (by decide) h h2
theorem d93_57 : decode (mB 93) 57 = .ok (.iconst 3, 1) := by decide +kernel
theorem u93_57 {d : Nat} {ls : Lo} {st : List Va} {σ : Sg} {Q : Rs → Sg → Prop} : Wx d 93 57 ls st σ Q ↔ Wx d 93 58 ls (vi 3 :: st) σ Q := u_iconst d93_57
theorem d93_58 : decode (mB 93) 58 = .ok (.goto 4, 3) := by decide +kernel
theorem u93_58 {d : Nat} {ls : Lo} {st : List Va} {σ : Sg} {Q : Rs → Sg → Prop} : Wx d 93 58 ls st σ Q ↔ Wx d 93 62 ls st σ Q := u_goto d93_58 (by decide)
theorem d93_61 : decode (mB 93) 61 = .ok (.iconst 0, 1) := by decide +kernel
theorem u93_61 {d : Nat} {ls : Lo} {st : List Va} {σ : Sg} {Q : Rs → Sg → Prop} : Wx d 93 61 ls st σ Q ↔ Wx d 93 62 ls (vi 0 :: st) σ Q := u_iconst d93_61
theorem d93_62 : decode (mB 93) 62 = .ok (.putfield 108, 3) := by decide +kernel
theorem u93_62 {d : Nat} {ls : Lo} {st : List Va} {σ : Sg} {Q : Rs → Sg → Prop} {z : Int} {g j : Nat} : Wx d 93 62 ls (vi z :: vr g j :: st) σ Q ↔ (isO g j 7 ∧ rf g j 0 = none) ∧ Wx d 93 65 ls st (up σ g j 0 z) Q := u_put (w := (7, 0)) d93_62 rfl rfl rfl
theorem d93_65 : decode (mB 93) 65 = .ok (.aload_n 0, 1) := by decide +kernel
theorem u93_65 {d : Nat} {ls : Lo} {st : List Va} {σ : Sg} {Q : Rs → Sg → Prop} : Wx d 93 65 ls st σ Q ↔ Lr (lget ls 0) (fun z => Wx d 93 66 ls (.inr (.inl z) :: st) σ Q) := u_aload_n d93_65
theorem d93_66 : decode (mB 93) 66 = .ok (.getfield 108, 3) := by decide +kernel
theorem u93_66 {d : Nat} {ls : Lo} {st : List Va} {σ : Sg} {Q : Rs → Sg → Prop} {g j : Nat} : Wx d 93 66 ls (vr g j :: st) σ Q ↔ isO g j 7 ∧ Wx d 93 69 ls (fvv σ g j 0 :: st) σ Q := u_get (w := (7, 0)) d93_66 rfl
theorem d93_69 : decode (mB 93) 69 = .ok (.ifCond .eq 7, 3) := by decide +kernel
theorem u93_69 {d : Nat} {ls : Lo} {st : List Va} {σ : Sg} {Q : Rs → Sg → Prop} {a : Int} (h : -2147483648 ≤ a ∧ a ≤ 2147483647) : Wx d 93 69 ls (vi a :: st) σ Q ↔ if a = 0 then Wx d 93 76 ls st σ Q else Wx d 93 72 ls st σ Q := u_ifeq d93_69 (by decide) h
theorem d93_72 : decode (mB 93) 72 = .ok (.iconst 0, 1) := by decide +kernel
theorem u93_72 {d : Nat} {ls : Lo} {st : List Va} {σ : Sg} {Q : Rs → Sg → Prop} : Wx d 93 72 ls st σ Q ↔ Wx d 93 73 ls (vi 0 :: st) σ Q := u_iconst d93_72
theorem d93_73 : decode (mB 93) 73 = .ok (.goto 34, 3) := by decide +kernel
theorem u93_73 {d : Nat} {ls : Lo} {st : List Va} {σ : Sg} {Q : Rs → Sg → Prop} : Wx d 93 73 ls st σ Q ↔ Wx d 93 107 ls st σ Q := u_goto d93_73 (by decide)
theorem d93_76 : decode (mB 93) 76 = .ok (.bipush 12, 2) := by decide +kernel
theorem u93_76 {d : Nat} {ls : Lo} {st : List Va} {σ : Sg} {Q : Rs → Sg → Prop} : Wx d 93 76 ls st σ Q ↔ Wx d 93 78 ls (vi 12 :: st) σ Q := u_bipush d93_76 (by decide)
theorem d93_78 : decode (mB 93) 78 = .ok (.aload_n 0, 1) := by decide +kernel
theorem u93_78 {d : Nat} {ls : Lo} {st : List Va} {σ : Sg} {Q : Rs → Sg → Prop} : Wx d 93 78 ls st σ Q ↔ Lr (lget ls 0) (fun z => Wx d 93 79 ls (.inr (.inl z) :: st) σ Q) := u_aload_n d93_78
theorem d93_79 : decode (mB 93) 79 = .ok (.getfield 50, 3) := by decide +kernel
theorem u93_79 {d : Nat} {ls : Lo} {st : List Va} {σ : Sg} {Q : Rs → Sg → Prop} {g j : Nat} : Wx d 93 79 ls (vr g j :: st) σ Q ↔ isO g j 7 ∧ Wx d 93 82 ls (fvv σ g j 18 :: st) σ Q := u_get (w := (7, 18)) d93_79 rfl
theorem d93_82 : decode (mB 93) 82 = .ok (.iload_n 2, 1) := by decide +kernel
theorem u93_82 {d : Nat} {ls : Lo} {st : List Va} {σ : Sg} {Q : Rs → Sg → Prop} : Wx d 93 82 ls st σ Q ↔ Li (lget ls 2) (fun z => Wx d 93 83 ls (vi z :: st) σ Q) := u_iload_n d93_82
theorem d93_83 : decode (mB 93) 83 = .ok (.iaload, 1) := by decide +kernel
theorem u93_83 {d : Nat} {ls : Lo} {st : List Va} {σ : Sg} {Q : Rs → Sg → Prop} {z : Int} {g j : Nat} : Wx d 93 83 ls (vi z :: vr g j :: st) σ Q ↔ On (ial σ g j z) (fun x => Wx d 93 84 ls (vi x :: st) σ Q) := u_iald d93_83
theorem d93_84 : decode (mB 93) 84 = .ok (.imul, 1) := by decide +kernel
theorem u93_84 {d : Nat} {ls : Lo} {st : List Va} {σ : Sg} {Q : Rs → Sg → Prop} {a b : Int} : Wx d 93 84 ls (vi b :: vi a :: st) σ Q ↔ Wx d 93 85 ls (vi (a * b) :: st) σ Q := u_imul d93_84
theorem d93_85 : decode (mB 93) 85 = .ok (.aload_n 0, 1) := by decide +kernel
theorem u93_85 {d : Nat} {ls : Lo} {st : List Va} {σ : Sg} {Q : Rs → Sg → Prop} : Wx d 93 85 ls st σ Q ↔ Lr (lget ls 0) (fun z => Wx d 93 86 ls (.inr (.inl z) :: st) σ Q) := u_aload_n d93_85
theorem d93_86 : decode (mB 93) 86 = .ok (.getfield 53, 3) := by decide +kernel
theorem u93_86 {d : Nat} {ls : Lo} {st : List Va} {σ : Sg} {Q : Rs → Sg → Prop} {g j : Nat} : Wx d 93 86 ls (vr g j :: st) σ Q ↔ isO g j 7 ∧ Wx d 93 89 ls (fvv σ g j 19 :: st) σ Q := u_get (w := (7, 19)) d93_86 rfl
theorem d93_89 : decode (mB 93) 89 = .ok (.iload_n 2, 1) := by decide +kernel
theorem u93_89 {d : Nat} {ls : Lo} {st : List Va} {σ : Sg} {Q : Rs → Sg → Prop} : Wx d 93 89 ls st σ Q ↔ Li (lget ls 2) (fun z => Wx d 93 90 ls (vi z :: st) σ Q) := u_iload_n d93_89
theorem d93_90 : decode (mB 93) 90 = .ok (.iaload, 1) := by decide +kernel
theorem u93_90 {d : Nat} {ls : Lo} {st : List Va} {σ : Sg} {Q : Rs → Sg → Prop} {z : Int} {g j : Nat} : Wx d 93 90 ls (vi z :: vr g j :: st) σ Q ↔ On (ial σ g j z) (fun x => Wx d 93 91 ls (vi x :: st) σ Q) := u_iald d93_90
theorem d93_91 : decode (mB 93) 91 = .ok (.iadd, 1) := by decide +kernel
theorem u93_91 {d : Nat} {ls : Lo} {st : List Va} {σ : Sg} {Q : Rs → Sg → Prop} {a b : Int} : Wx d 93 91 ls (vi b :: vi a :: st) σ Q ↔ Wx d 93 92 ls (vi (a + b) :: st) σ Q := u_iadd d93_91
theorem d93_92 : decode (mB 93) 92 = .ok (.iload_n 2, 1) := by decide +kernel
theorem u93_92 {d : Nat} {ls : Lo} {st : List Va} {σ : Sg} {Q : Rs → Sg → Prop} : Wx d 93 92 ls st σ Q ↔ Li (lget ls 2) (fun z => Wx d 93 93 ls (vi z :: st) σ Q) := u_iload_n d93_92
theorem d93_93 : decode (mB 93) 93 = .ok (.aload_n 0, 1) := by decide +kernel
theorem u93_93 {d : Nat} {ls : Lo} {st : List Va} {σ : Sg} {Q : Rs → Sg → Prop} : Wx d 93 93 ls st σ Q ↔ Lr (lget ls 0) (fun z => Wx d 93 94 ls (.inr (.inl z) :: st) σ Q) := u_aload_n d93_93
theorem d93_94 : decode (mB 93) 94 = .ok (.getfield 163, 3) := by decide +kernel
theorem u93_94 {d : Nat} {ls : Lo} {st : List Va} {σ : Sg} {Q : Rs → Sg → Prop} {g j : Nat} : Wx d 93 94 ls (vr g j :: st) σ Q ↔ isO g j 7 ∧ Wx d 93 97 ls (fvv σ g j 20 :: st) σ Q := u_get (w := (7, 20)) d93_94 rfl
theorem d93_97 : decode (mB 93) 97 = .ok (.if_icmp .ne 8, 3) := by decide +kernel
theorem u93_97 {d : Nat} {ls : Lo} {st : List Va} {σ : Sg} {Q : Rs → Sg → Prop} {a b : Int} (h : -2147483648 ≤ a ∧ a ≤ 2147483647) (h2 : -2147483648 ≤ b ∧ b ≤ 2147483647) : Wx d 93 97 ls (vi b :: vi a :: st) σ Q ↔ if ¬ a = b then Wx d 93 105 ls st σ Q else Wx d 93 100 ls st σ Q := u_icne d93_97 (by decide) h h2
theorem d93_100 : decode (mB 93) 100 = .ok (.bipush 100, 2) := by decide +kernel
theorem u93_100 {d : Nat} {ls : Lo} {st : List Va} {σ : Sg} {Q : Rs → Sg → Prop} : Wx d 93 100 ls st σ Q ↔ Wx d 93 102 ls (vi 100 :: st) σ Q := u_bipush d93_100 (by decide)
theorem d93_102 : decode (mB 93) 102 = .ok (.goto 4, 3) := by decide +kernel
theorem u93_102 {d : Nat} {ls : Lo} {st : List Va} {σ : Sg} {Q : Rs → Sg → Prop} : Wx d 93 102 ls st σ Q ↔ Wx d 93 106 ls st σ Q := u_goto d93_102 (by decide)
theorem d93_105 : decode (mB 93) 105 = .ok (.iconst 0, 1) := by decide +kernel
theorem u93_105 {d : Nat} {ls : Lo} {st : List Va} {σ : Sg} {Q : Rs → Sg → Prop} : Wx d 93 105 ls st σ Q ↔ Wx d 93 106 ls (vi 0 :: st) σ Q := u_iconst d93_105
theorem d93_106 : decode (mB 93) 106 = .ok (.iadd, 1) := by decide +kernel
theorem u93_106 {d : Nat} {ls : Lo} {st : List Va} {σ : Sg} {Q : Rs → Sg → Prop} {a b : Int} : Wx d 93 106 ls (vi b :: vi a :: st) σ Q ↔ Wx d 93 107 ls (vi (a + b) :: st) σ Q := u_iadd d93_106
theorem d93_107 : decode (mB 93) 107 = .ok (.ireturn, 1) := by decide +kernel
theorem u93_107 {d : Nat} {ls : Lo} {σ : Sg} {Q : Rs → Sg → Prop} {z : Int} : Wx d 93 107 ls [vi z] σ Q ↔ Q (.inl (some (vi z))) σ := u_iret d93_107 rfl
/-! 94: FiguredBassModel.toneOf(I)I -/
theorem d94_0 : decode (mB 94) 0 = .ok (.iconst 0, 1) := by decide +kernel
theorem u94_0 {d : Nat} {ls : Lo} {st : List Va} {σ : Sg} {Q : Rs → Sg → Prop} : Wx d 94 0 ls st σ Q ↔ Wx d 94 1 ls (vi 0 :: st) σ Q := u_iconst d94_0
theorem d94_1 : decode (mB 94) 1 = .ok (.istore_n 2, 1) := by decide +kernel
theorem u94_1 {d : Nat} {ls : Lo} {st : List Va} {σ : Sg} {Q : Rs → Sg → Prop} {z : Int} : Wx d 94 1 ls (vi z :: st) σ Q ↔ Wx d 94 2 (lset ls 2 (vi z)) st σ Q := u_istore_n d94_1 (by decide)
theorem d94_2 : decode (mB 94) 2 = .ok (.iload_n 2, 1) := by decide +kernel
theorem u94_2 {d : Nat} {ls : Lo} {st : List Va} {σ : Sg} {Q : Rs → Sg → Prop} : Wx d 94 2 ls st σ Q ↔ Li (lget ls 2) (fun z => Wx d 94 3 ls (vi z :: st) σ Q) := u_iload_n d94_2
theorem d94_3 : decode (mB 94) 3 = .ok (.aload_n 0, 1) := by decide +kernel
theorem u94_3 {d : Nat} {ls : Lo} {st : List Va} {σ : Sg} {Q : Rs → Sg → Prop} : Wx d 94 3 ls st σ Q ↔ Lr (lget ls 0) (fun z => Wx d 94 4 ls (.inr (.inl z) :: st) σ Q) := u_aload_n d94_3
theorem d94_4 : decode (mB 94) 4 = .ok (.getfield 153, 3) := by decide +kernel
theorem u94_4 {d : Nat} {ls : Lo} {st : List Va} {σ : Sg} {Q : Rs → Sg → Prop} {g j : Nat} : Wx d 94 4 ls (vr g j :: st) σ Q ↔ isO g j 7 ∧ Wx d 94 7 ls (fvv σ g j 17 :: st) σ Q := u_get (w := (7, 17)) d94_4 rfl
theorem d94_7 : decode (mB 94) 7 = .ok (.if_icmp .ge 24, 3) := by decide +kernel
theorem u94_7 {d : Nat} {ls : Lo} {st : List Va} {σ : Sg} {Q : Rs → Sg → Prop} {a b : Int} (h : -2147483648 ≤ a ∧ a ≤ 2147483647) (h2 : -2147483648 ≤ b ∧ b ≤ 2147483647) : Wx d 94 7 ls (vi b :: vi a :: st) σ Q ↔ if b ≤ a then Wx d 94 31 ls st σ Q else Wx d 94 10 ls st σ Q := u_icge d94_7 (by decide) h h2
theorem d94_10 : decode (mB 94) 10 = .ok (.aload_n 0, 1) := by decide +kernel
theorem u94_10 {d : Nat} {ls : Lo} {st : List Va} {σ : Sg} {Q : Rs → Sg → Prop} : Wx d 94 10 ls st σ Q ↔ Lr (lget ls 0) (fun z => Wx d 94 11 ls (.inr (.inl z) :: st) σ Q) := u_aload_n d94_10
theorem d94_11 : decode (mB 94) 11 = .ok (.getfield 53, 3) := by decide +kernel
theorem u94_11 {d : Nat} {ls : Lo} {st : List Va} {σ : Sg} {Q : Rs → Sg → Prop} {g j : Nat} : Wx d 94 11 ls (vr g j :: st) σ Q ↔ isO g j 7 ∧ Wx d 94 14 ls (fvv σ g j 19 :: st) σ Q := u_get (w := (7, 19)) d94_11 rfl
theorem d94_14 : decode (mB 94) 14 = .ok (.iload_n 2, 1) := by decide +kernel
theorem u94_14 {d : Nat} {ls : Lo} {st : List Va} {σ : Sg} {Q : Rs → Sg → Prop} : Wx d 94 14 ls st σ Q ↔ Li (lget ls 2) (fun z => Wx d 94 15 ls (vi z :: st) σ Q) := u_iload_n d94_14
theorem d94_15 : decode (mB 94) 15 = .ok (.iaload, 1) := by decide +kernel
theorem u94_15 {d : Nat} {ls : Lo} {st : List Va} {σ : Sg} {Q : Rs → Sg → Prop} {z : Int} {g j : Nat} : Wx d 94 15 ls (vi z :: vr g j :: st) σ Q ↔ On (ial σ g j z) (fun x => Wx d 94 16 ls (vi x :: st) σ Q) := u_iald d94_15
theorem d94_16 : decode (mB 94) 16 = .ok (.iload_n 1, 1) := by decide +kernel
theorem u94_16 {d : Nat} {ls : Lo} {st : List Va} {σ : Sg} {Q : Rs → Sg → Prop} : Wx d 94 16 ls st σ Q ↔ Li (lget ls 1) (fun z => Wx d 94 17 ls (vi z :: st) σ Q) := u_iload_n d94_16
theorem d94_17 : decode (mB 94) 17 = .ok (.bipush 12, 2) := by decide +kernel
theorem u94_17 {d : Nat} {ls : Lo} {st : List Va} {σ : Sg} {Q : Rs → Sg → Prop} : Wx d 94 17 ls st σ Q ↔ Wx d 94 19 ls (vi 12 :: st) σ Q := u_bipush d94_17 (by decide)
theorem d94_19 : decode (mB 94) 19 = .ok (.irem, 1) := by decide +kernel
theorem u94_19 {d : Nat} {ls : Lo} {st : List Va} {σ : Sg} {Q : Rs → Sg → Prop} {a b : Int} (h : (-2147483648 ≤ a ∧ a ≤ 2147483647) ∧ 0 < b ∧ b ≤ 2147483647) : Wx d 94 19 ls (vi b :: vi a :: st) σ Q ↔ Wx d 94 20 ls (vi (Int.tmod a b) :: st) σ Q := u_irem d94_19 h
theorem d94_20 : decode (mB 94) 20 = .ok (.if_icmp .ne 5, 3) := by decide +kernel
theorem u94_20 {d : Nat} {ls : Lo} {st : List Va} {σ : Sg} {Q : Rs → Sg → Prop} {a b : Int} (h : -2147483648 ≤ a ∧ a ≤ 2147483647) (h2 : -2147483648 ≤ b ∧ b ≤ 2147483647) : Wx d 94 20 ls (vi b :: vi a :: st) σ Q ↔ if ¬ a = b then Wx d 94 25 ls st σ Q else Wx d 94 23 ls st σ Q := u_icne d94_20 (by decide) h h2
theorem d94_23 : decode (mB 94) 23 = .ok (.iload_n 2, 1) := by decide +kernel
theorem u94_23 {d : Nat} {ls : Lo} {st : List Va} {σ : Sg} {Q : Rs → Sg → Prop} : Wx d 94 23 ls st σ Q ↔ Li (lget ls 2) (fun z => Wx d 94 24 ls (vi z :: st) σ Q) := u_iload_n d94_23
theorem d94_24 : decode (mB 94) 24 = .ok (.ireturn, 1) := by decide +kernel
theorem u94_24 {d : Nat} {ls : Lo} {σ : Sg} {Q : Rs → Sg → Prop} {z : Int} : Wx d 94 24 ls [vi z] σ Q ↔ Q (.inl (some (vi z))) σ := u_iret d94_24 rfl
theorem d94_25 : decode (mB 94) 25 = .ok (.iinc 2 1, 3) := by decide +kernel
theorem u94_25 {d : Nat} {ls : Lo} {st : List Va} {σ : Sg} {Q : Rs → Sg → Prop} : Wx d 94 25 ls st σ Q ↔ Li (lget ls 2) (fun z => Wx d 94 28 (lset ls 2 (vi (z + 1))) st σ Q) := u_iinc d94_25 (by decide)
theorem d94_28 : decode (mB 94) 28 = .ok (.goto (-26), 3) := by decide +kernel
theorem u94_28 {d : Nat} {ls : Lo} {st : List Va} {σ : Sg} {Q : Rs → Sg → Prop} : Wx d 94 28 ls st σ Q ↔ Wx d 94 2 ls st σ Q := u_goto d94_28 (by decide)
theorem d94_31 : decode (mB 94) 31 = .ok (.iconst (-1), 1) := by decide +kernel
theorem u94_31 {d : Nat} {ls : Lo} {st : List Va} {σ : Sg} {Q : Rs → Sg → Prop} : Wx d 94 31 ls st σ Q ↔ Wx d 94 32 ls (vi (-1) :: st) σ Q := u_iconst d94_31
theorem d94_32 : decode (mB 94) 32 = .ok (.ireturn, 1) := by decide +kernel
theorem u94_32 {d : Nat} {ls : Lo} {σ : Sg} {Q : Rs → Sg → Prop} {z : Int} : Wx d 94 32 ls [vi z] σ Q ↔ Q (.inl (some (vi z))) σ := u_iret d94_32 rfl
/-! 95: FiguredBassModel.hasAll(III)Z -/
theorem d95_0 : decode (mB 95) 0 = .ok (.iconst 1, 1) := by decide +kernel
theorem u95_0 {d : Nat} {ls : Lo} {st : List Va} {σ : Sg} {Q : Rs → Sg → Prop} : Wx d 95 0 ls st σ Q ↔ Wx d 95 1 ls (vi 1 :: st) σ Q := u_iconst d95_0
theorem d95_1 : decode (mB 95) 1 = .ok (.iconst 1, 1) := by decide +kernel
theorem u95_1 {d : Nat} {ls : Lo} {st : List Va} {σ : Sg} {Q : Rs → Sg → Prop} : Wx d 95 1 ls st σ Q ↔ Wx d 95 2 ls (vi 1 :: st) σ Q := u_iconst d95_1
theorem d95_2 : decode (mB 95) 2 = .ok (.aload_n 0, 1) := by decide +kernel
theorem u95_2 {d : Nat} {ls : Lo} {st : List Va} {σ : Sg} {Q : Rs → Sg → Prop} : Wx d 95 2 ls st σ Q ↔ Lr (lget ls 0) (fun z => Wx d 95 3 ls (.inr (.inl z) :: st) σ Q) := u_aload_n d95_2
theorem d95_3 : decode (mB 95) 3 = .ok (.iload_n 1, 1) := by decide +kernel
theorem u95_3 {d : Nat} {ls : Lo} {st : List Va} {σ : Sg} {Q : Rs → Sg → Prop} : Wx d 95 3 ls st σ Q ↔ Li (lget ls 1) (fun z => Wx d 95 4 ls (vi z :: st) σ Q) := u_iload_n d95_3
theorem d95_4 : decode (mB 95) 4 = .ok (.invokevirtual 178, 3) := by decide +kernel
theorem u95_4 {d : Nat} {ls : Lo} {st : List Va} {σ : Sg} {Q : Rs → Sg → Prop} {g j : Nat} {a1 : Va} : Wx (d + 1) 95 4 ls (a1 :: vr g j :: st) σ Q ↔ (isO g j 7 ∧ st.length ≤ 4 ∧ nlg [a1] = true) ∧ Wm d 94 [vr g j, a1] σ (Kc (d + 1) 95 7 ls st Q) := u_inv1 d95_4 rfl rfl rfl
theorem d95_7 : decode (mB 95) 7 = .ok (.ishl, 1) := by decide +kernel
theorem u95_7 {d : Nat} {ls : Lo} {st : List Va} {σ : Sg} {Q : Rs → Sg → Prop} {a b : Int} : Wx d 95 7 ls (vi b :: vi a :: st) σ Q ↔ Wx d 95 8 ls (vi ((i3 a <<< (i3 b &&& 31)).toInt) :: st) σ Q := u_ishl d95_7
theorem d95_8 : decode (mB 95) 8 = .ok (.ior, 1) := by decide +kernel
theorem u95_8 {d : Nat} {ls : Lo} {st : List Va} {σ : Sg} {Q : Rs → Sg → Prop} {a b : Int} : Wx d 95 8 ls (vi b :: vi a :: st) σ Q ↔ Wx d 95 9 ls (vi ((i3 a ||| i3 b).toInt) :: st) σ Q := u_ior d95_8
theorem d95_9 : decode (mB 95) 9 = .ok (.iconst 1, 1) := by decide +kernel
theorem u95_9 {d : Nat} {ls : Lo} {st : List Va} {σ : Sg} {Q : Rs → Sg → Prop} : Wx d 95 9 ls st σ Q ↔ Wx d 95 10 ls (vi 1 :: st) σ Q := u_iconst d95_9
theorem d95_10 : decode (mB 95) 10 = .ok (.aload_n 0, 1) := by decide +kernel
theorem u95_10 {d : Nat} {ls : Lo} {st : List Va} {σ : Sg} {Q : Rs → Sg → Prop} : Wx d 95 10 ls st σ Q ↔ Lr (lget ls 0) (fun z => Wx d 95 11 ls (.inr (.inl z) :: st) σ Q) := u_aload_n d95_10
theorem d95_11 : decode (mB 95) 11 = .ok (.iload_n 2, 1) := by decide +kernel
theorem u95_11 {d : Nat} {ls : Lo} {st : List Va} {σ : Sg} {Q : Rs → Sg → Prop} : Wx d 95 11 ls st σ Q ↔ Li (lget ls 2) (fun z => Wx d 95 12 ls (vi z :: st) σ Q) := u_iload_n d95_11
theorem d95_12 : decode (mB 95) 12 = .ok (.invokevirtual 178, 3) := by decide +kernel
theorem u95_12 {d : Nat} {ls : Lo} {st : List Va} {σ : Sg} {Q : Rs → Sg → Prop} {g j : Nat} {a1 : Va} : Wx (d + 1) 95 12 ls (a1 :: vr g j :: st) σ Q ↔ (isO g j 7 ∧ st.length ≤ 4 ∧ nlg [a1] = true) ∧ Wm d 94 [vr g j, a1] σ (Kc (d + 1) 95 15 ls st Q) := u_inv1 d95_12 rfl rfl rfl
theorem d95_15 : decode (mB 95) 15 = .ok (.ishl, 1) := by decide +kernel
theorem u95_15 {d : Nat} {ls : Lo} {st : List Va} {σ : Sg} {Q : Rs → Sg → Prop} {a b : Int} : Wx d 95 15 ls (vi b :: vi a :: st) σ Q ↔ Wx d 95 16 ls (vi ((i3 a <<< (i3 b &&& 31)).toInt) :: st) σ Q := u_ishl d95_15
theorem d95_16 : decode (mB 95) 16 = .ok (.ior, 1) := by decide +kernel
theorem u95_16 {d : Nat} {ls : Lo} {st : List Va} {σ : Sg} {Q : Rs → Sg → Prop} {a b : Int} : Wx d 95 16 ls (vi b :: vi a :: st) σ Q ↔ Wx d 95 17 ls (vi ((i3 a ||| i3 b).toInt) :: st) σ Q := u_ior d95_16
theorem d95_17 : decode (mB 95) 17 = .ok (.iconst 1, 1) := by decide +kernel
theorem u95_17 {d : Nat} {ls : Lo} {st : List Va} {σ : Sg} {Q : Rs → Sg → Prop} : Wx d 95 17 ls st σ Q ↔ Wx d 95 18 ls (vi 1 :: st) σ Q := u_iconst d95_17
theorem d95_18 : decode (mB 95) 18 = .ok (.aload_n 0, 1) := by decide +kernel
theorem u95_18 {d : Nat} {ls : Lo} {st : List Va} {σ : Sg} {Q : Rs → Sg → Prop} : Wx d 95 18 ls st σ Q ↔ Lr (lget ls 0) (fun z => Wx d 95 19 ls (.inr (.inl z) :: st) σ Q) := u_aload_n d95_18
theorem d95_19 : decode (mB 95) 19 = .ok (.iload_n 3, 1) := by decide +kernel
theorem u95_19 {d : Nat} {ls : Lo} {st : List Va} {σ : Sg} {Q : Rs → Sg → Prop} : Wx d 95 19 ls st σ Q ↔ Li (lget ls 3) (fun z => Wx d 95 20 ls (vi z :: st) σ Q) := u_iload_n d95_19
theorem d95_20 : decode (mB 95) 20 = .ok (.invokevirtual 178, 3) := by decide +kernel
theorem u95_20 {d : Nat} {ls : Lo} {st : List Va} {σ : Sg} {Q : Rs → Sg → Prop} {g j : Nat} {a1 : Va} : Wx (d + 1) 95 20 ls (a1 :: vr g j :: st) σ Q ↔ (isO g j 7 ∧ st.length ≤ 4 ∧ nlg [a1] = true) ∧ Wm d 94 [vr g j, a1] σ (Kc (d + 1) 95 23 ls st Q) := u_inv1 d95_20 rfl rfl rfl
theorem d95_23 : decode (mB 95) 23 = .ok (.ishl, 1) := by decide +kernel
theorem u95_23 {d : Nat} {ls : Lo} {st : List Va} {σ : Sg} {Q : Rs → Sg → Prop} {a b : Int} : Wx d 95 23 ls (vi b :: vi a :: st) σ Q ↔ Wx d 95 24 ls (vi ((i3 a <<< (i3 b &&& 31)).toInt) :: st) σ Q := u_ishl d95_23
theorem d95_24 : decode (mB 95) 24 = .ok (.ior, 1) := by decide +kernel
theorem u95_24 {d : Nat} {ls : Lo} {st : List Va} {σ : Sg} {Q : Rs → Sg → Prop} {a b : Int} : Wx d 95 24 ls (vi b :: vi a :: st) σ Q ↔ Wx d 95 25 ls (vi ((i3 a ||| i3 b).toInt) :: st) σ Q := u_ior d95_24
theorem d95_25 : decode (mB 95) 25 = .ok (.istore 4, 2) := by decide +kernel
theorem u95_25 {d : Nat} {ls : Lo} {st : List Va} {σ : Sg} {Q : Rs → Sg → Prop} {z : Int} : Wx d 95 25 ls (vi z :: st) σ Q ↔ Wx d 95 27 (lset ls 4 (vi z)) st σ Q := u_istore d95_25 (by decide)
theorem d95_27 : decode (mB 95) 27 = .ok (.aload_n 0, 1) := by decide +kernel
theorem u95_27 {d : Nat} {ls : Lo} {st : List Va} {σ : Sg} {Q : Rs → Sg → Prop} : Wx d 95 27 ls st σ Q ↔ Lr (lget ls 0) (fun z => Wx d 95 28 ls (.inr (.inl z) :: st) σ Q) := u_aload_n d95_27
theorem d95_28 : decode (mB 95) 28 = .ok (.getfield 163, 3) := by decide +kernel
theorem u95_28 {d : Nat} {ls : Lo} {st : List Va} {σ : Sg} {Q : Rs → Sg → Prop} {g j : Nat} : Wx d 95 28 ls (vr g j :: st) σ Q ↔ isO g j 7 ∧ Wx d 95 31 ls (fvv σ g j 20 :: st) σ Q := u_get (w := (7, 20)) d95_28 rfl
theorem d95_31 : decode (mB 95) 31 = .ok (.ifCond .lt 15, 3) := by decide +kernel
theorem u95_31 {d : Nat} {ls : Lo} {st : List Va} {σ : Sg} {Q : Rs → Sg → Prop} {a : Int} (h : -2147483648 ≤ a ∧ a ≤ 2147483647) : Wx d 95 31 ls (vi a :: st) σ Q ↔ if a < 0 then Wx d 95 46 ls st σ Q else Wx d 95 34 ls st σ Q := u_iflt d95_31 (by decide) h
theorem d95_34 : decode (mB 95) 34 = .ok (.iload 4, 2) := by decide +kernel
theorem u95_34 {d : Nat} {ls : Lo} {st : List Va} {σ : Sg} {Q : Rs → Sg → Prop} : Wx d 95 34 ls st σ Q ↔ Li (lget ls 4) (fun z => Wx d 95 36 ls (vi z :: st) σ Q) := u_iload d95_34
theorem d95_36 : decode (mB 95) 36 = .ok (.iconst 1, 1) := by decide +kernel
theorem u95_36 {d : Nat} {ls : Lo} {st : List Va} {σ : Sg} {Q : Rs → Sg → Prop} : Wx d 95 36 ls st σ Q ↔ Wx d 95 37 ls (vi 1 :: st) σ Q := u_iconst d95_36
theorem d95_37 : decode (mB 95) 37 = .ok (.aload_n 0, 1) := by decide +kernel
theorem u95_37 {d : Nat} {ls : Lo} {st : List Va} {σ : Sg} {Q : Rs → Sg → Prop} : Wx d 95 37 ls st σ Q ↔ Lr (lget ls 0) (fun z => Wx d 95 38 ls (.inr (.inl z) :: st) σ Q) := u_aload_n d95_37
theorem d95_38 : decode (mB 95) 38 = .ok (.getfield 163, 3) := by decide +kernel
theorem u95_38 {d : Nat} {ls : Lo} {st : List Va} {σ : Sg} {Q : Rs → Sg → Prop} {g j : Nat} : Wx d 95 38 ls (vr g j :: st) σ Q ↔ isO g j 7 ∧ Wx d 95 41 ls (fvv σ g j 20 :: st) σ Q := u_get (w := (7, 20)) d95_38 rfl
theorem d95_41 : decode (mB 95) 41 = .ok (.ishl, 1) := by decide +kernel
theorem u95_41 {d : Nat} {ls : Lo} {st : List Va} {σ : Sg} {Q : Rs → Sg → Prop} {a b : Int} : Wx d 95 41 ls (vi b :: vi a :: st) σ Q ↔ Wx d 95 42 ls (vi ((i3 a <<< (i3 b &&& 31)).toInt) :: st) σ Q := u_ishl d95_41
theorem d95_42 : decode (mB 95) 42 = .ok (.ior, 1) := by decide +kernel
theorem u95_42 {d : Nat} {ls : Lo} {st : List Va} {σ : Sg} {Q : Rs → Sg → Prop} {a b : Int} : Wx d 95 42 ls (vi b :: vi a :: st) σ Q ↔ Wx d 95 43 ls (vi ((i3 a ||| i3 b).toInt) :: st) σ Q := u_ior d95_42
theorem d95_43 : decode (mB 95) 43 = .ok (.goto 5, 3) := by decide +kernel
theorem u95_43 {d : Nat} {ls : Lo} {st : List Va} {σ : Sg} {Q : Rs → Sg → Prop} : Wx d 95 43 ls st σ Q ↔ Wx d 95 48 ls st σ Q := u_goto d95_43 (by decide)
theorem d95_46 : decode (mB 95) 46 = .ok (.iload 4, 2) := by decide +kernel
theorem u95_46 {d : Nat} {ls : Lo} {st : List Va} {σ : Sg} {Q : Rs → Sg → Prop} : Wx d 95 46 ls st σ Q ↔ Li (lget ls 4) (fun z => Wx d 95 48 ls (vi z :: st) σ Q) := u_iload d95_46
theorem d95_48 : decode (mB 95) 48 = .ok (.istore 4, 2) := by decide +kernel
theorem u95_48 {d : Nat} {ls : Lo} {st : List Va} {σ : Sg} {Q : Rs → Sg → Prop} {z : Int} : Wx d 95 48 ls (vi z :: st) σ Q ↔ Wx d 95 50 (lset ls 4 (vi z)) st σ Q := u_istore d95_48 (by decide)
theorem d95_50 : decode (mB 95) 50 = .ok (.iload 4, 2) := by decide +kernel
theorem u95_50 {d : Nat} {ls : Lo} {st : List Va} {σ : Sg} {Q : Rs → Sg → Prop} : Wx d 95 50 ls st σ Q ↔ Li (lget ls 4) (fun z => Wx d 95 52 ls (vi z :: st) σ Q) := u_iload d95_50
theorem d95_52 : decode (mB 95) 52 = .ok (.iconst 1, 1) := by decide +kernel
theorem u95_52 {d : Nat} {ls : Lo} {st : List Va} {σ : Sg} {Q : Rs → Sg → Prop} : Wx d 95 52 ls st σ Q ↔ Wx d 95 53 ls (vi 1 :: st) σ Q := u_iconst d95_52
theorem d95_53 : decode (mB 95) 53 = .ok (.aload_n 0, 1) := by decide +kernel
theorem u95_53 {d : Nat} {ls : Lo} {st : List Va} {σ : Sg} {Q : Rs → Sg → Prop} : Wx d 95 53 ls st σ Q ↔ Lr (lget ls 0) (fun z => Wx d 95 54 ls (.inr (.inl z) :: st) σ Q) := u_aload_n d95_53
theorem d95_54 : decode (mB 95) 54 = .ok (.getfield 153, 3) := by decide +kernel
theorem u95_54 {d : Nat} {ls : Lo} {st : List Va} {σ : Sg} {Q : Rs → Sg → Prop} {g j : Nat} : Wx d 95 54 ls (vr g j :: st) σ Q ↔ isO g j 7 ∧ Wx d 95 57 ls (fvv σ g j 17 :: st) σ Q := u_get (w := (7, 17)) d95_54 rfl
theorem d95_57 : decode (mB 95) 57 = .ok (.ishl, 1) := by decide +kernel
theorem u95_57 {d : Nat} {ls : Lo} {st : List Va} {σ : Sg} {Q : Rs → Sg → Prop} {a b : Int} : Wx d 95 57 ls (vi b :: vi a :: st) σ Q ↔ Wx d 95 58 ls (vi ((i3 a <<< (i3 b &&& 31)).toInt) :: st) σ Q := u_ishl d95_57
theorem d95_58 : decode (mB 95) 58 = .ok (.iconst 1, 1) := by decide +kernel
theorem u95_58 {d : Nat} {ls : Lo} {st : List Va} {σ : Sg} {Q : Rs → Sg → Prop} : Wx d 95 58 ls st σ Q ↔ Wx d 95 59 ls (vi 1 :: st) σ Q := u_iconst d95_58
theorem d95_59 : decode (mB 95) 59 = .ok (.isub, 1) := by decide +kernel
theorem u95_59 {d : Nat} {ls : Lo} {st : List Va} {σ : Sg} {Q : Rs → Sg → Prop} {a b : Int} : Wx d 95 59 ls (vi b :: vi a :: st) σ Q ↔ Wx d 95 60 ls (vi (a - b) :: st) σ Q := u_isub d95_59
theorem d95_60 : decode (mB 95) 60 = .ok (.if_icmp .ne 7, 3) := by decide +kernel
theorem u95_60 {d : Nat} {ls : Lo} {st : List Va} {σ : Sg} {Q : Rs → Sg → Prop} {a b : Int} (h : -2147483648 ≤ a ∧ a ≤ 2147483647) (h2 : -2147483648 ≤ b ∧ b ≤ 2147483647) : Wx d 95 60 ls (vi b :: vi a :: st) σ Q ↔ if ¬ a = b then Wx d 95 67 ls st σ Q else Wx d 95 63 ls st σ Q := u_icne d95_60 (by decide) h h2
theorem d95_63 : decode (mB 95) 63 = .ok (.iconst 1, 1) := by decide +kernel
theorem u95_63 {d : Nat} {ls : Lo} {st : List Va} {σ : Sg} {Q : Rs → Sg → Prop} : Wx d 95 63 ls st σ Q ↔ Wx d 95 64 ls (vi 1 :: st) σ Q := u_iconst d95_63
theorem d95_64 : decode (mB 95) 64 = .ok (.goto 4, 3) := by decide +kernel
theorem u95_64 {d : Nat} {ls : Lo} {st : List Va} {σ : Sg} {Q : Rs → Sg → Prop} : Wx d 95 64 ls st σ Q ↔ Wx d 95 68 ls st σ Q := u_goto d95_64 (by decide)
theorem d95_67 : decode (mB 95) 67 = .ok (.iconst 0, 1) := by decide +kernel
theorem u95_67 {d : Nat} {ls : Lo} {st : List Va} {σ : Sg} {Q : Rs → Sg → Prop} : Wx d 95 67 ls st σ Q ↔ Wx d 95 68 ls (vi 0 :: st) σ Q := u_iconst d95_67
theorem d95_68 : decode (mB 95) 68 = .ok (.ireturn, 1) := by decide +kernel
theorem u95_68 {d : Nat} {ls : Lo} {σ : Sg} {Q : Rs → Sg → Prop} {z : Int} (h : z = 0 ∨ z = 1) : Wx d 95 68 ls [vi z] σ Q ↔ Q (.inl (some (vi z))) σ := u_zret d95_68 rfl h
/-! 96: FiguredBassModel.writePlaces(I)V -/
theorem d96_0 : decode (mB 96) 0 = .ok (.sipush 400, 3) := by decide +kernel
theorem u96_0 {d : Nat} {ls : Lo} {st : List Va} {σ : Sg} {Q : Rs → Sg → Prop} : Wx d 96 0 ls st σ Q ↔ Wx d 96 3 ls (vi 400 :: st) σ Q := u_sipush d96_0 (by decide)
theorem d96_3 : decode (mB 96) 3 = .ok (.iload_n 1, 1) := by decide +kernel
theorem u96_3 {d : Nat} {ls : Lo} {st : List Va} {σ : Sg} {Q : Rs → Sg → Prop} : Wx d 96 3 ls st σ Q ↔ Li (lget ls 1) (fun z => Wx d 96 4 ls (vi z :: st) σ Q) := u_iload_n d96_3
theorem d96_4 : decode (mB 96) 4 = .ok (.imul, 1) := by decide +kernel
theorem u96_4 {d : Nat} {ls : Lo} {st : List Va} {σ : Sg} {Q : Rs → Sg → Prop} {a b : Int} : Wx d 96 4 ls (vi b :: vi a :: st) σ Q ↔ Wx d 96 5 ls (vi (a * b) :: st) σ Q := u_imul d96_4
theorem d96_5 : decode (mB 96) 5 = .ok (.istore_n 2, 1) := by decide +kernel
theorem u96_5 {d : Nat} {ls : Lo} {st : List Va} {σ : Sg} {Q : Rs → Sg → Prop} {z : Int} : Wx d 96 5 ls (vi z :: st) σ Q ↔ Wx d 96 6 (lset ls 2 (vi z)) st σ Q := u_istore_n d96_5 (by decide)
theorem d96_6 : decode (mB 96) 6 = .ok (.aload_n 0, 1) := by decide +kernel
theorem u96_6 {d : Nat} {ls : Lo} {st : List Va} {σ : Sg} {Q : Rs → Sg → Prop} : Wx d 96 6 ls st σ Q ↔ Lr (lget ls 0) (fun z => Wx d 96 7 ls (.inr (.inl z) :: st) σ Q) := u_aload_n d96_6
theorem d96_7 : decode (mB 96) 7 = .ok (.getfield 16, 3) := by decide +kernel
theorem u96_7 {d : Nat} {ls : Lo} {st : List Va} {σ : Sg} {Q : Rs → Sg → Prop} {g j : Nat} : Wx d 96 7 ls (vr g j :: st) σ Q ↔ isO g j 7 ∧ Wx d 96 10 ls (fvv σ g j 3 :: st) σ Q := u_get (w := (7, 3)) d96_7 rfl
theorem d96_10 : decode (mB 96) 10 = .ok (.iconst 0, 1) := by decide +kernel
theorem u96_10 {d : Nat} {ls : Lo} {st : List Va} {σ : Sg} {Q : Rs → Sg → Prop} : Wx d 96 10 ls st σ Q ↔ Wx d 96 11 ls (vi 0 :: st) σ Q := u_iconst d96_10
theorem d96_11 : decode (mB 96) 11 = .ok (.iaload, 1) := by decide +kernel
theorem u96_11 {d : Nat} {ls : Lo} {st : List Va} {σ : Sg} {Q : Rs → Sg → Prop} {z : Int} {g j : Nat} : Wx d 96 11 ls (vi z :: vr g j :: st) σ Q ↔ On (ial σ g j z) (fun x => Wx d 96 12 ls (vi x :: st) σ Q) := u_iald d96_11
theorem d96_12 : decode (mB 96) 12 = .ok (.istore_n 3, 1) := by decide +kernel
theorem u96_12 {d : Nat} {ls : Lo} {st : List Va} {σ : Sg} {Q : Rs → Sg → Prop} {z : Int} : Wx d 96 12 ls (vi z :: st) σ Q ↔ Wx d 96 13 (lset ls 3 (vi z)) st σ Q := u_istore_n d96_12 (by decide)
theorem d96_13 : decode (mB 96) 13 = .ok (.iload_n 3, 1) := by decide +kernel
theorem u96_13 {d : Nat} {ls : Lo} {st : List Va} {σ : Sg} {Q : Rs → Sg → Prop} : Wx d 96 13 ls st σ Q ↔ Li (lget ls 3) (fun z => Wx d 96 14 ls (vi z :: st) σ Q) := u_iload_n d96_13
theorem d96_14 : decode (mB 96) 14 = .ok (.aload_n 0, 1) := by decide +kernel
theorem u96_14 {d : Nat} {ls : Lo} {st : List Va} {σ : Sg} {Q : Rs → Sg → Prop} : Wx d 96 14 ls st σ Q ↔ Lr (lget ls 0) (fun z => Wx d 96 15 ls (.inr (.inl z) :: st) σ Q) := u_aload_n d96_14
theorem d96_15 : decode (mB 96) 15 = .ok (.getfield 19, 3) := by decide +kernel
theorem u96_15 {d : Nat} {ls : Lo} {st : List Va} {σ : Sg} {Q : Rs → Sg → Prop} {g j : Nat} : Wx d 96 15 ls (vr g j :: st) σ Q ↔ isO g j 7 ∧ Wx d 96 18 ls (fvv σ g j 4 :: st) σ Q := u_get (w := (7, 4)) d96_15 rfl
theorem d96_18 : decode (mB 96) 18 = .ok (.iconst 0, 1) := by decide +kernel
theorem u96_18 {d : Nat} {ls : Lo} {st : List Va} {σ : Sg} {Q : Rs → Sg → Prop} : Wx d 96 18 ls st σ Q ↔ Wx d 96 19 ls (vi 0 :: st) σ Q := u_iconst d96_18
theorem d96_19 : decode (mB 96) 19 = .ok (.iaload, 1) := by decide +kernel
theorem u96_19 {d : Nat} {ls : Lo} {st : List Va} {σ : Sg} {Q : Rs → Sg → Prop} {z : Int} {g j : Nat} : Wx d 96 19 ls (vi z :: vr g j :: st) σ Q ↔ On (ial σ g j z) (fun x => Wx d 96 20 ls (vi x :: st) σ Q) := u_iald d96_19
theorem d96_20 : decode (mB 96) 20 = .ok (.if_icmp .gt 178, 3) := by decide +kernel
theorem u96_20 {d : Nat} {ls : Lo} {st : List Va} {σ : Sg} {Q : Rs → Sg → Prop} {a b : Int} (h : -2147483648 ≤ a ∧ a ≤ 2147483647) (h2 : -2147483648 ≤ b ∧ b ≤ 2147483647) : Wx d 96 20 ls (vi b :: vi a :: st) σ Q ↔ if b < a then Wx d 96 198 ls st σ Q else Wx d 96 23 ls st σ Q := u_icgt d96_20 (by decide) h h2
theorem d96_23 : decode (mB 96) 23 = .ok (.aload_n 0, 1) := by decide +kernel
theorem u96_23 {d : Nat} {ls : Lo} {st : List Va} {σ : Sg} {Q : Rs → Sg → Prop} : Wx d 96 23 ls st σ Q ↔ Lr (lget ls 0) (fun z => Wx d 96 24 ls (.inr (.inl z) :: st) σ Q) := u_aload_n d96_23
theorem d96_24 : decode (mB 96) 24 = .ok (.getfield 16, 3) := by decide +kernel
theorem u96_24 {d : Nat} {ls : Lo} {st : List Va} {σ : Sg} {Q : Rs → Sg → Prop} {g j : Nat} : Wx d 96 24 ls (vr g j :: st) σ Q ↔ isO g j 7 ∧ Wx d 96 27 ls (fvv σ g j 3 :: st) σ Q := u_get (w := (7, 3)) d96_24 rfl
theorem d96_27 : decode (mB 96) 27 = .ok (.iconst 1, 1) := by decide +kernel
theorem u96_27 {d : Nat} {ls : Lo} {st : List Va} {σ : Sg} {Q : Rs → Sg → Prop} : Wx d 96 27 ls st σ Q ↔ Wx d 96 28 ls (vi 1 :: st) σ Q := u_iconst d96_27
theorem d96_28 : decode (mB 96) 28 = .ok (.iaload, 1) := by decide +kernel
theorem u96_28 {d : Nat} {ls : Lo} {st : List Va} {σ : Sg} {Q : Rs → Sg → Prop} {z : Int} {g j : Nat} : Wx d 96 28 ls (vi z :: vr g j :: st) σ Q ↔ On (ial σ g j z) (fun x => Wx d 96 29 ls (vi x :: st) σ Q) := u_iald d96_28
theorem d96_29 : decode (mB 96) 29 = .ok (.istore 4, 2) := by decide +kernel
theorem u96_29 {d : Nat} {ls : Lo} {st : List Va} {σ : Sg} {Q : Rs → Sg → Prop} {z : Int} : Wx d 96 29 ls (vi z :: st) σ Q ↔ Wx d 96 31 (lset ls 4 (vi z)) st σ Q := u_istore d96_29 (by decide)
theorem d96_31 : decode (mB 96) 31 = .ok (.iload 4, 2) := by decide +kernel
theorem u96_31 {d : Nat} {ls : Lo} {st : List Va} {σ : Sg} {Q : Rs → Sg → Prop} : Wx d 96 31 ls st σ Q ↔ Li (lget ls 4) (fun z => Wx d 96 33 ls (vi z :: st) σ Q) := u_iload d96_31
theorem d96_33 : decode (mB 96) 33 = .ok (.aload_n 0, 1) := by decide +kernel
theorem u96_33 {d : Nat} {ls : Lo} {st : List Va} {σ : Sg} {Q : Rs → Sg → Prop} : Wx d 96 33 ls st σ Q ↔ Lr (lget ls 0) (fun z => Wx d 96 34 ls (.inr (.inl z) :: st) σ Q) := u_aload_n d96_33
theorem d96_34 : decode (mB 96) 34 = .ok (.getfield 19, 3) := by decide +kernel
theorem u96_34 {d : Nat} {ls : Lo} {st : List Va} {σ : Sg} {Q : Rs → Sg → Prop} {g j : Nat} : Wx d 96 34 ls (vr g j :: st) σ Q ↔ isO g j 7 ∧ Wx d 96 37 ls (fvv σ g j 4 :: st) σ Q := u_get (w := (7, 4)) d96_34 rfl
theorem d96_37 : decode (mB 96) 37 = .ok (.iconst 1, 1) := by decide +kernel
theorem u96_37 {d : Nat} {ls : Lo} {st : List Va} {σ : Sg} {Q : Rs → Sg → Prop} : Wx d 96 37 ls st σ Q ↔ Wx d 96 38 ls (vi 1 :: st) σ Q := u_iconst d96_37
theorem d96_38 : decode (mB 96) 38 = .ok (.iaload, 1) := by decide +kernel
theorem u96_38 {d : Nat} {ls : Lo} {st : List Va} {σ : Sg} {Q : Rs → Sg → Prop} {z : Int} {g j : Nat} : Wx d 96 38 ls (vi z :: vr g j :: st) σ Q ↔ On (ial σ g j z) (fun x => Wx d 96 39 ls (vi x :: st) σ Q) := u_iald d96_38
theorem d96_39 : decode (mB 96) 39 = .ok (.if_icmp .gt 153, 3) := by decide +kernel
theorem u96_39 {d : Nat} {ls : Lo} {st : List Va} {σ : Sg} {Q : Rs → Sg → Prop} {a b : Int} (h : -2147483648 ≤ a ∧ a ≤ 2147483647) (h2 : -2147483648 ≤ b ∧ b ≤ 2147483647) : Wx d 96 39 ls (vi b :: vi a :: st) σ Q ↔ if b < a then Wx d 96 192 ls st σ Q else Wx d 96 42 ls st σ Q := u_icgt d96_39 (by decide) h h2
theorem d96_42 : decode (mB 96) 42 = .ok (.iload 4, 2) := by decide +kernel
theorem u96_42 {d : Nat} {ls : Lo} {st : List Va} {σ : Sg} {Q : Rs → Sg → Prop} : Wx d 96 42 ls st σ Q ↔ Li (lget ls 4) (fun z => Wx d 96 44 ls (vi z :: st) σ Q) := u_iload d96_42
theorem d96_44 : decode (mB 96) 44 = .ok (.iload_n 3, 1) := by decide +kernel
theorem u96_44 {d : Nat} {ls : Lo} {st : List Va} {σ : Sg} {Q : Rs → Sg → Prop} : Wx d 96 44 ls st σ Q ↔ Li (lget ls 3) (fun z => Wx d 96 45 ls (vi z :: st) σ Q) := u_iload_n d96_44
theorem d96_45 : decode (mB 96) 45 = .ok (.if_icmp .gt 147, 3) := by decide +kernel
theorem u96_45 {d : Nat} {ls : Lo} {st : List Va} {σ : Sg} {Q : Rs → Sg → Prop} {a b : Int} (h : -2147483648 ≤ a ∧ a ≤ 2147483647) (h2 : -2147483648 ≤ b ∧ b ≤ 2147483647) : Wx d 96 45 ls (vi b :: vi a :: st) σ Q ↔ if b < a then Wx d 96 192 ls st σ Q else Wx d 96 48 ls st σ Q := u_icgt d96_45 (by decide) h h2
theorem d96_48 : decode (mB 96) 48 = .ok (.aload_n 0, 1) := by decide +kernel
theorem u96_48 {d : Nat} {ls : Lo} {st : List Va} {σ : Sg} {Q : Rs → Sg → Prop} : Wx d 96 48 ls st σ Q ↔ Lr (lget ls 0) (fun z => Wx d 96 49 ls (.inr (.inl z) :: st) σ Q) := u_aload_n d96_48
theorem d96_49 : decode (mB 96) 49 = .ok (.iload_n 3, 1) := by decide +kernel
theorem u96_49 {d : Nat} {ls : Lo} {st : List Va} {σ : Sg} {Q : Rs → Sg → Prop} : Wx d 96 49 ls st σ Q ↔ Li (lget ls 3) (fun z => Wx d 96 50 ls (vi z :: st) σ Q) := u_iload_n d96_49
theorem d96_50 : decode (mB 96) 50 = .ok (.invokevirtual 178, 3) := by decide +kernel
theorem u96_50 {d : Nat} {ls : Lo} {st : List Va} {σ : Sg} {Q : Rs → Sg → Prop} {g j : Nat} {a1 : Va} : Wx (d + 1) 96 50 ls (a1 :: vr g j :: st) σ Q ↔ (isO g j 7 ∧ st.length ≤ 4 ∧ nlg [a1] = true) ∧ Wm d 94 [vr g j, a1] σ (Kc (d + 1) 96 53 ls st Q) := u_inv1 d96_50 rfl rfl rfl
theorem d96_53 : decode (mB 96) 53 = .ok (.ifCond .lt 139, 3) := by decide +kernel
theorem u96_53 {d : Nat} {ls : Lo} {st : List Va} {σ : Sg} {Q : Rs → Sg → Prop} {a : Int} (h : -2147483648 ≤ a ∧ a ≤ 2147483647) : Wx d 96 53 ls (vi a :: st) σ Q ↔ if a < 0 then Wx d 96 192 ls st σ Q else Wx d 96 56 ls st σ Q := u_iflt d96_53 (by decide) h
theorem d96_56 : decode (mB 96) 56 = .ok (.iload_n 3, 1) := by decide +kernel
theorem u96_56 {d : Nat} {ls : Lo} {st : List Va} {σ : Sg} {Q : Rs → Sg → Prop} : Wx d 96 56 ls st σ Q ↔ Li (lget ls 3) (fun z => Wx d 96 57 ls (vi z :: st) σ Q) := u_iload_n d96_56
theorem d96_57 : decode (mB 96) 57 = .ok (.iload 4, 2) := by decide +kernel
theorem u96_57 {d : Nat} {ls : Lo} {st : List Va} {σ : Sg} {Q : Rs → Sg → Prop} : Wx d 96 57 ls st σ Q ↔ Li (lget ls 4) (fun z => Wx d 96 59 ls (vi z :: st) σ Q) := u_iload d96_57
theorem d96_59 : decode (mB 96) 59 = .ok (.isub, 1) := by decide +kernel
theorem u96_59 {d : Nat} {ls : Lo} {st : List Va} {σ : Sg} {Q : Rs → Sg → Prop} {a b : Int} : Wx d 96 59 ls (vi b :: vi a :: st) σ Q ↔ Wx d 96 60 ls (vi (a - b) :: st) σ Q := u_isub d96_59
theorem d96_60 : decode (mB 96) 60 = .ok (.bipush 12, 2) := by decide +kernel
theorem u96_60 {d : Nat} {ls : Lo} {st : List Va} {σ : Sg} {Q : Rs → Sg → Prop} : Wx d 96 60 ls st σ Q ↔ Wx d 96 62 ls (vi 12 :: st) σ Q := u_bipush d96_60 (by decide)
theorem d96_62 : decode (mB 96) 62 = .ok (.if_icmp .gt 16, 3) := by decide +kernel
theorem u96_62 {d : Nat} {ls : Lo} {st : List Va} {σ : Sg} {Q : Rs → Sg → Prop} {a b : Int} (h : -2147483648 ≤ a ∧ a ≤ 2147483647) (h2 : -2147483648 ≤ b ∧ b ≤ 2147483647) : Wx d 96 62 ls (vi b :: vi a :: st) σ Q ↔ if b < a then Wx d 96 78 ls st σ Q else Wx d 96 65 ls st σ Q := u_icgt d96_62 (by decide) h h2
theorem d96_65 : decode (mB 96) 65 = .ok (.aload_n 0, 1) := by decide +kernel
theorem u96_65 {d : Nat} {ls : Lo} {st : List Va} {σ : Sg} {Q : Rs → Sg → Prop} : Wx d 96 65 ls st σ Q ↔ Lr (lget ls 0) (fun z => Wx d 96 66 ls (.inr (.inl z) :: st) σ Q) := u_aload_n d96_65
theorem d96_66 : decode (mB 96) 66 = .ok (.iload 4, 2) := by decide +kernel
theorem u96_66 {d : Nat} {ls : Lo} {st : List Va} {σ : Sg} {Q : Rs → Sg → Prop} : Wx d 96 66 ls st σ Q ↔ Li (lget ls 4) (fun z => Wx d 96 68 ls (vi z :: st) σ Q) := u_iload d96_66
theorem d96_68 : decode (mB 96) 68 = .ok (.invokevirtual 178, 3) := by decide +kernel
theorem u96_68 {d : Nat} {ls : Lo} {st : List Va} {σ : Sg} {Q : Rs → Sg → Prop} {g j : Nat} {a1 : Va} : Wx (d + 1) 96 68 ls (a1 :: vr g j :: st) σ Q ↔ (isO g j 7 ∧ st.length ≤ 4 ∧ nlg [a1] = true) ∧ Wm d 94 [vr g j, a1] σ (Kc (d + 1) 96 71 ls st Q) := u_inv1 d96_68 rfl rfl rfl
theorem d96_71 : decode (mB 96) 71 = .ok (.ifCond .lt 7, 3) := by decide +kernel
theorem u96_71 {d : Nat} {ls : Lo} {st : List Va} {σ : Sg} {Q : Rs → Sg → Prop} {a : Int} (h : -2147483648 ≤ a ∧ a ≤ 2147483647) : Wx d 96 71 ls (vi a :: st) σ Q ↔ if a < 0 then Wx d 96 78 ls st σ Q else Wx d 96 74 ls st σ Q := u_iflt d96_71 (by decide) h
theorem d96_74 : decode (mB 96) 74 = .ok (.iconst 1, 1) := by decide +kernel
theorem u96_74 {d : Nat} {ls : Lo} {st : List Va} {σ : Sg} {Q : Rs → Sg → Prop} : Wx d 96 74 ls st σ Q ↔ Wx d 96 75 ls (vi 1 :: st) σ Q := u_iconst d96_74
theorem d96_75 : decode (mB 96) 75 = .ok (.goto 4, 3) := by decide +kernel
theorem u96_75 {d : Nat} {ls : Lo} {st : List Va} {σ : Sg} {Q : Rs → Sg → Prop} : Wx d 96 75 ls st σ Q ↔ Wx d 96 79 ls st σ Q := u_goto d96_75 (by decide)
theorem d96_78 : decode (mB 96) 78 = .ok (.iconst 0, 1) := by decide +kernel
theorem u96_78 {d : Nat} {ls : Lo} {st : List Va} {σ : Sg} {Q : Rs → Sg → Prop} : Wx d 96 78 ls st σ Q ↔ Wx d 96 79 ls (vi 0 :: st) σ Q := u_iconst d96_78
theorem d96_79 : decode (mB 96) 79 = .ok (.istore 5, 2) := by decide +kernel
theorem u96_79 {d : Nat} {ls : Lo} {st : List Va} {σ : Sg} {Q : Rs → Sg → Prop} {z : Int} : Wx d 96 79 ls (vi z :: st) σ Q ↔ Wx d 96 81 (lset ls 5 (vi z)) st σ Q := u_istore d96_79 (by decide)
theorem d96_81 : decode (mB 96) 81 = .ok (.aload_n 0, 1) := by decide +kernel
theorem u96_81 {d : Nat} {ls : Lo} {st : List Va} {σ : Sg} {Q : Rs → Sg → Prop} : Wx d 96 81 ls st σ Q ↔ Lr (lget ls 0) (fun z => Wx d 96 82 ls (.inr (.inl z) :: st) σ Q) := u_aload_n d96_81
theorem d96_82 : decode (mB 96) 82 = .ok (.getfield 16, 3) := by decide +kernel
theorem u96_82 {d : Nat} {ls : Lo} {st : List Va} {σ : Sg} {Q : Rs → Sg → Prop} {g j : Nat} : Wx d 96 82 ls (vr g j :: st) σ Q ↔ isO g j 7 ∧ Wx d 96 85 ls (fvv σ g j 3 :: st) σ Q := u_get (w := (7, 3)) d96_82 rfl
theorem d96_85 : decode (mB 96) 85 = .ok (.iconst 2, 1) := by decide +kernel
theorem u96_85 {d : Nat} {ls : Lo} {st : List Va} {σ : Sg} {Q : Rs → Sg → Prop} : Wx d 96 85 ls st σ Q ↔ Wx d 96 86 ls (vi 2 :: st) σ Q := u_iconst d96_85
theorem d96_86 : decode (mB 96) 86 = .ok (.iaload, 1) := by decide +kernel
theorem u96_86 {d : Nat} {ls : Lo} {st : List Va} {σ : Sg} {Q : Rs → Sg → Prop} {z : Int} {g j : Nat} : Wx d 96 86 ls (vi z :: vr g j :: st) σ Q ↔ On (ial σ g j z) (fun x => Wx d 96 87 ls (vi x :: st) σ Q) := u_iald d96_86
theorem d96_87 : decode (mB 96) 87 = .ok (.istore 6, 2) := by decide +kernel
theorem u96_87 {d : Nat} {ls : Lo} {st : List Va} {σ : Sg} {Q : Rs → Sg → Prop} {z : Int} : Wx d 96 87 ls (vi z :: st) σ Q ↔ Wx d 96 89 (lset ls 6 (vi z)) st σ Q := u_istore d96_87 (by decide)
theorem d96_89 : decode (mB 96) 89 = .ok (.iload 6, 2) := by decide +kernel
theorem u96_89 {d : Nat} {ls : Lo} {st : List Va} {σ : Sg} {Q : Rs → Sg → Prop} : Wx d 96 89 ls st σ Q ↔ Li (lget ls 6) (fun z => Wx d 96 91 ls (vi z :: st) σ Q) := u_iload d96_89
theorem d96_91 : decode (mB 96) 91 = .ok (.aload_n 0, 1) := by decide +kernel
theorem u96_91 {d : Nat} {ls : Lo} {st : List Va} {σ : Sg} {Q : Rs → Sg → Prop} : Wx d 96 91 ls st σ Q ↔ Lr (lget ls 0) (fun z => Wx d 96 92 ls (.inr (.inl z) :: st) σ Q) := u_aload_n d96_91
theorem d96_92 : decode (mB 96) 92 = .ok (.getfield 19, 3) := by decide +kernel
theorem u96_92 {d : Nat} {ls : Lo} {st : List Va} {σ : Sg} {Q : Rs → Sg → Prop} {g j : Nat} : Wx d 96 92 ls (vr g j :: st) σ Q ↔ isO g j 7 ∧ Wx d 96 95 ls (fvv σ g j 4 :: st) σ Q := u_get (w := (7, 4)) d96_92 rfl
theorem d96_95 : decode (mB 96) 95 = .ok (.iconst 2, 1) := by decide +kernel
theorem u96_95 {d : Nat} {ls : Lo} {st : List Va} {σ : Sg} {Q : Rs → Sg → Prop} : Wx d 96 95 ls st σ Q ↔ Wx d 96 96 ls (vi 2 :: st) σ Q := u_iconst d96_95
theorem d96_96 : decode (mB 96) 96 = .ok (.iaload, 1) := by decide +kernel
theorem u96_96 {d : Nat} {ls : Lo} {st : List Va} {σ : Sg} {Q : Rs → Sg → Prop} {z : Int} {g j : Nat} : Wx d 96 96 ls (vi z :: vr g j :: st) σ Q ↔ On (ial σ g j z) (fun x => Wx d 96 97 ls (vi x :: st) σ Q) := u_iald d96_96
theorem d96_97 : decode (mB 96) 97 = .ok (.if_icmp .gt 89, 3) := by decide +kernel
theorem u96_97 {d : Nat} {ls : Lo} {st : List Va} {σ : Sg} {Q : Rs → Sg → Prop} {a b : Int} (h : -2147483648 ≤ a ∧ a ≤ 2147483647) (h2 : -2147483648 ≤ b ∧ b ≤ 2147483647) : Wx d 96 97 ls (vi b :: vi a :: st) σ Q ↔ if b < a then Wx d 96 186 ls st σ Q else Wx d 96 100 ls st σ Q := u_icgt d96_97 (by decide) h h2
theorem d96_100 : decode (mB 96) 100 = .ok (.iload 6, 2) := by decide +kernel
theorem u96_100 {d : Nat} {ls : Lo} {st : List Va} {σ : Sg} {Q : Rs → Sg → Prop} : Wx d 96 100 ls st σ Q ↔ Li (lget ls 6) (fun z => Wx d 96 102 ls (vi z :: st) σ Q) := u_iload d96_100
theorem d96_102 : decode (mB 96) 102 = .ok (.iload 4, 2) := by decide +kernel
theorem u96_102 {d : Nat} {ls : Lo} {st : List Va} {σ : Sg} {Q : Rs → Sg → Prop} : Wx d 96 102 ls st σ Q ↔ Li (lget ls 4) (fun z => Wx d 96 104 ls (vi z :: st) σ Q) := u_iload d96_102
theorem d96_104 : decode (mB 96) 104 = .ok (.if_icmp .gt 82, 3) := by decide +kernel
theorem u96_104 {d : Nat} {ls : Lo} {st : List Va} {σ : Sg} {Q : Rs → Sg → Prop} {a b : Int} (h : -2147483648 ≤ a ∧ a ≤ 2147483647) (h2 : -2147483648 ≤ b ∧ b ≤ 2147483647) : Wx d 96 104 ls (vi b :: vi a :: st) σ Q ↔ if b < a then Wx d 96 186 ls st σ Q else Wx d 96 107 ls st σ Q := u_icgt d96_104 (by decide) h h2
theorem d96_107 : decode (mB 96) 107 = .ok (.iload 5, 2) := by decide +kernel
theorem u96_107 {d : Nat} {ls : Lo} {st : List Va} {σ : Sg} {Q : Rs → Sg → Prop} : Wx d 96 107 ls st σ Q ↔ Li (lget ls 5) (fun z => Wx d 96 109 ls (vi z :: st) σ Q) := u_iload d96_107
theorem d96_109 : decode (mB 96) 109 = .ok (.ifCond .eq 77, 3) := by decide +kernel
theorem u96_109 {d : Nat} {ls : Lo} {st : List Va} {σ : Sg} {Q : Rs → Sg → Prop} {a : Int} (h : -2147483648 ≤ a ∧ a ≤ 2147483647) : Wx d 96 109 ls (vi a :: st) σ Q ↔ if a = 0 then Wx d 96 186 ls st σ Q else Wx d 96 112 ls st σ Q := u_ifeq d96_109 (by decide) h
theorem d96_112 : decode (mB 96) 112 = .ok (.iload 4, 2) := by decide +kernel
theorem u96_112 {d : Nat} {ls : Lo} {st : List Va} {σ : Sg} {Q : Rs → Sg → Prop} : Wx d 96 112 ls st σ Q ↔ Li (lget ls 4) (fun z => Wx d 96 114 ls (vi z :: st) σ Q) := u_iload d96_112
theorem d96_114 : decode (mB 96) 114 = .ok (.iload 6, 2) := by decide +kernel
theorem u96_114 {d : Nat} {ls : Lo} {st : List Va} {σ : Sg} {Q : Rs → Sg → Prop} : Wx d 96 114 ls st σ Q ↔ Li (lget ls 6) (fun z => Wx d 96 116 ls (vi z :: st) σ Q) := u_iload d96_114
theorem d96_116 : decode (mB 96) 116 = .ok (.isub, 1) := by decide +kernel
theorem u96_116 {d : Nat} {ls : Lo} {st : List Va} {σ : Sg} {Q : Rs → Sg → Prop} {a b : Int} : Wx d 96 116 ls (vi b :: vi a :: st) σ Q ↔ Wx d 96 117 ls (vi (a - b) :: st) σ Q := u_isub d96_116
theorem d96_117 : decode (mB 96) 117 = .ok (.bipush 12, 2) := by decide +kernel
theorem u96_117 {d : Nat} {ls : Lo} {st : List Va} {σ : Sg} {Q : Rs → Sg → Prop} : Wx d 96 117 ls st σ Q ↔ Wx d 96 119 ls (vi 12 :: st) σ Q := u_bipush d96_117 (by decide)
theorem d96_119 : decode (mB 96) 119 = .ok (.if_icmp .gt 61, 3) := by decide +kernel
theorem u96_119 {d : Nat} {ls : Lo} {st : List Va} {σ : Sg} {Q : Rs → Sg → Prop} {a b : Int} (h : -2147483648 ≤ a ∧ a ≤ 2147483647) (h2 : -2147483648 ≤ b ∧ b ≤ 2147483647) : Wx d 96 119 ls (vi b :: vi a :: st) σ Q ↔ if b < a then Wx d 96 180 ls st σ Q else Wx d 96 122 ls st σ Q := u_icgt d96_119 (by decide) h h2
theorem d96_122 : decode (mB 96) 122 = .ok (.iload 6, 2) := by decide +kernel
theorem u96_122 {d : Nat} {ls : Lo} {st : List Va} {σ : Sg} {Q : Rs → Sg → Prop} : Wx d 96 122 ls st σ Q ↔ Li (lget ls 6) (fun z => Wx d 96 124 ls (vi z :: st) σ Q) := u_iload d96_122
theorem d96_124 : decode (mB 96) 124 = .ok (.aload_n 0, 1) := by decide +kernel
theorem u96_124 {d : Nat} {ls : Lo} {st : List Va} {σ : Sg} {Q : Rs → Sg → Prop} : Wx d 96 124 ls st σ Q ↔ Lr (lget ls 0) (fun z => Wx d 96 125 ls (.inr (.inl z) :: st) σ Q) := u_aload_n d96_124
theorem d96_125 : decode (mB 96) 125 = .ok (.getfield 26, 3) := by decide +kernel
theorem u96_125 {d : Nat} {ls : Lo} {st : List Va} {σ : Sg} {Q : Rs → Sg → Prop} {g j : Nat} : Wx d 96 125 ls (vr g j :: st) σ Q ↔ isO g j 7 ∧ Wx d 96 128 ls (fvv σ g j 8 :: st) σ Q := u_get (w := (7, 8)) d96_125 rfl
theorem d96_128 : decode (mB 96) 128 = .ok (.iload_n 1, 1) := by decide +kernel
theorem u96_128 {d : Nat} {ls : Lo} {st : List Va} {σ : Sg} {Q : Rs → Sg → Prop} : Wx d 96 128 ls st σ Q ↔ Li (lget ls 1) (fun z => Wx d 96 129 ls (vi z :: st) σ Q) := u_iload_n d96_128
theorem d96_129 : decode (mB 96) 129 = .ok (.iaload, 1) := by decide +kernel
theorem u96_129 {d : Nat} {ls : Lo} {st : List Va} {σ : Sg} {Q : Rs → Sg → Prop} {z : Int} {g j : Nat} : Wx d 96 129 ls (vi z :: vr g j :: st) σ Q ↔ On (ial σ g j z) (fun x => Wx d 96 130 ls (vi x :: st) σ Q) := u_iald d96_129
theorem d96_130 : decode (mB 96) 130 = .ok (.if_icmp .lt 50, 3) := by decide +kernel
theorem u96_130 {d : Nat} {ls : Lo} {st : List Va} {σ : Sg} {Q : Rs → Sg → Prop} {a b : Int} (h : -2147483648 ≤ a ∧ a ≤ 2147483647) (h2 : -2147483648 ≤ b ∧ b ≤ 2147483647) : Wx d 96 130 ls (vi b :: vi a :: st) σ Q ↔ if a < b then Wx d 96 180 ls st σ Q else Wx d 96 133 ls st σ Q := u_iclt d96_130 (by decide) h h2
theorem d96_133 : decode (mB 96) 133 = .ok (.aload_n 0, 1) := by decide +kernel
theorem u96_133 {d : Nat} {ls : Lo} {st : List Va} {σ : Sg} {Q : Rs → Sg → Prop} : Wx d 96 133 ls st σ Q ↔ Lr (lget ls 0) (fun z => Wx d 96 134 ls (.inr (.inl z) :: st) σ Q) := u_aload_n d96_133
theorem d96_134 : decode (mB 96) 134 = .ok (.iload 6, 2) := by decide +kernel
theorem u96_134 {d : Nat} {ls : Lo} {st : List Va} {σ : Sg} {Q : Rs → Sg → Prop} : Wx d 96 134 ls st σ Q ↔ Li (lget ls 6) (fun z => Wx d 96 136 ls (vi z :: st) σ Q) := u_iload d96_134
theorem d96_136 : decode (mB 96) 136 = .ok (.invokevirtual 178, 3) := by decide +kernel
theorem u96_136 {d : Nat} {ls : Lo} {st : List Va} {σ : Sg} {Q : Rs → Sg → Prop} {g j : Nat} {a1 : Va} : Wx (d + 1) 96 136 ls (a1 :: vr g j :: st) σ Q ↔ (isO g j 7 ∧ st.length ≤ 4 ∧ nlg [a1] = true) ∧ Wm d 94 [vr g j, a1] σ (Kc (d + 1) 96 139 ls st Q) := u_inv1 d96_136 rfl rfl rfl
theorem d96_139 : decode (mB 96) 139 = .ok (.ifCond .lt 41, 3) := by decide +kernel
theorem u96_139 {d : Nat} {ls : Lo} {st : List Va} {σ : Sg} {Q : Rs → Sg → Prop} {a : Int} (h : -2147483648 ≤ a ∧ a ≤ 2147483647) : Wx d 96 139 ls (vi a :: st) σ Q ↔ if a < 0 then Wx d 96 180 ls st σ Q else Wx d 96 142 ls st σ Q := u_iflt d96_139 (by decide) h
theorem d96_142 : decode (mB 96) 142 = .ok (.aload_n 0, 1) := by decide +kernel
theorem u96_142 {d : Nat} {ls : Lo} {st : List Va} {σ : Sg} {Q : Rs → Sg → Prop} : Wx d 96 142 ls st σ Q ↔ Lr (lget ls 0) (fun z => Wx d 96 143 ls (.inr (.inl z) :: st) σ Q) := u_aload_n d96_142
theorem d96_143 : decode (mB 96) 143 = .ok (.iload_n 3, 1) := by decide +kernel
theorem u96_143 {d : Nat} {ls : Lo} {st : List Va} {σ : Sg} {Q : Rs → Sg → Prop} : Wx d 96 143 ls st σ Q ↔ Li (lget ls 3) (fun z => Wx d 96 144 ls (vi z :: st) σ Q) := u_iload_n d96_143
theorem d96_144 : decode (mB 96) 144 = .ok (.iload 4, 2) := by decide +kernel
theorem u96_144 {d : Nat} {ls : Lo} {st : List Va} {σ : Sg} {Q : Rs → Sg → Prop} : Wx d 96 144 ls st σ Q ↔ Li (lget ls 4) (fun z => Wx d 96 146 ls (vi z :: st) σ Q) := u_iload d96_144
theorem d96_146 : decode (mB 96) 146 = .ok (.iload 6, 2) := by decide +kernel
theorem u96_146 {d : Nat} {ls : Lo} {st : List Va} {σ : Sg} {Q : Rs → Sg → Prop} : Wx d 96 146 ls st σ Q ↔ Li (lget ls 6) (fun z => Wx d 96 148 ls (vi z :: st) σ Q) := u_iload d96_146
theorem d96_148 : decode (mB 96) 148 = .ok (.invokevirtual 181, 3) := by decide +kernel
theorem u96_148 {d : Nat} {ls : Lo} {st : List Va} {σ : Sg} {Q : Rs → Sg → Prop} {g j : Nat} {a1 a2 a3 : Va} : Wx (d + 1) 96 148 ls (a3 :: a2 :: a1 :: vr g j :: st) σ Q ↔ (isO g j 7 ∧ st.length ≤ 4 ∧ nlg [a3, a2, a1] = true) ∧ Wm d 95 [vr g j, a1, a2, a3] σ (Kc (d + 1) 96 151 ls st Q) := u_inv3 d96_148 rfl rfl rfl
theorem d96_151 : decode (mB 96) 151 = .ok (.ifCond .eq 29, 3) := by decide +kernel
theorem u96_151 {d : Nat} {ls : Lo} {st : List Va} {σ : Sg} {Q : Rs → Sg → Prop} {a : Int} (h : -2147483648 ≤ a ∧ a ≤ 2147483647) : Wx d 96 151 ls (vi a :: st) σ Q ↔ if a = 0 then Wx d 96 180 ls st σ Q else Wx d 96 154 ls st σ Q := u_ifeq d96_151 (by decide) h
theorem d96_154 : decode (mB 96) 154 = .ok (.aload_n 0, 1) := by decide +kernel
theorem u96_154 {d : Nat} {ls : Lo} {st : List Va} {σ : Sg} {Q : Rs → Sg → Prop} : Wx d 96 154 ls st σ Q ↔ Lr (lget ls 0) (fun z => Wx d 96 155 ls (.inr (.inl z) :: st) σ Q) := u_aload_n d96_154
theorem d96_155 : decode (mB 96) 155 = .ok (.getfield 68, 3) := by decide +kernel
theorem u96_155 {d : Nat} {ls : Lo} {st : List Va} {σ : Sg} {Q : Rs → Sg → Prop} {g j : Nat} : Wx d 96 155 ls (vr g j :: st) σ Q ↔ isO g j 7 ∧ Wx d 96 158 ls (fvv σ g j 27 :: st) σ Q := u_get (w := (7, 27)) d96_155 rfl
theorem d96_158 : decode (mB 96) 158 = .ok (.iload_n 2, 1) := by decide +kernel
theorem u96_158 {d : Nat} {ls : Lo} {st : List Va} {σ : Sg} {Q : Rs → Sg → Prop} : Wx d 96 158 ls st σ Q ↔ Li (lget ls 2) (fun z => Wx d 96 159 ls (vi z :: st) σ Q) := u_iload_n d96_158
theorem d96_159 : decode (mB 96) 159 = .ok (.iload_n 3, 1) := by decide +kernel
theorem u96_159 {d : Nat} {ls : Lo} {st : List Va} {σ : Sg} {Q : Rs → Sg → Prop} : Wx d 96 159 ls st σ Q ↔ Li (lget ls 3) (fun z => Wx d 96 160 ls (vi z :: st) σ Q) := u_iload_n d96_159
theorem d96_160 : decode (mB 96) 160 = .ok (.iastore, 1) := by decide +kernel
theorem u96_160 {d : Nat} {ls : Lo} {st : List Va} {σ : Sg} {Q : Rs → Sg → Prop} {x z : Int} {g j : Nat} : Wx d 96 160 ls (vi x :: vi z :: vr g j :: st) σ Q ↔ isA g j 0 z ∧ Wx d 96 161 ls st (up σ g j z.toNat x) Q := u_iast d96_160
theorem d96_161 : decode (mB 96) 161 = .ok (.aload_n 0, 1) := by decide +kernel
theorem u96_161 {d : Nat} {ls : Lo} {st : List Va} {σ : Sg} {Q : Rs → Sg → Prop} : Wx d 96 161 ls st σ Q ↔ Lr (lget ls 0) (fun z => Wx d 96 162 ls (.inr (.inl z) :: st) σ Q) := u_aload_n d96_161
theorem d96_162 : decode (mB 96) 162 = .ok (.getfield 71, 3) := by decide +kernel
theorem u96_162 {d : Nat} {ls : Lo} {st : List Va} {σ : Sg} {Q : Rs → Sg → Prop} {g j : Nat} : Wx d 96 162 ls (vr g j :: st) σ Q ↔ isO g j 7 ∧ Wx d 96 165 ls (fvv σ g j 28 :: st) σ Q := u_get (w := (7, 28)) d96_162 rfl
theorem d96_165 : decode (mB 96) 165 = .ok (.iload_n 2, 1) := by decide +kernel
theorem u96_165 {d : Nat} {ls : Lo} {st : List Va} {σ : Sg} {Q : Rs → Sg → Prop} : Wx d 96 165 ls st σ Q ↔ Li (lget ls 2) (fun z => Wx d 96 166 ls (vi z :: st) σ Q) := u_iload_n d96_165
theorem d96_166 : decode (mB 96) 166 = .ok (.iload 4, 2) := by decide +kernel
theorem u96_166 {d : Nat} {ls : Lo} {st : List Va} {σ : Sg} {Q : Rs → Sg → Prop} : Wx d 96 166 ls st σ Q ↔ Li (lget ls 4) (fun z => Wx d 96 168 ls (vi z :: st) σ Q) := u_iload d96_166
theorem d96_168 : decode (mB 96) 168 = .ok (.iastore, 1) := by decide +kernel
theorem u96_168 {d : Nat} {ls : Lo} {st : List Va} {σ : Sg} {Q : Rs → Sg → Prop} {x z : Int} {g j : Nat} : Wx d 96 168 ls (vi x :: vi z :: vr g j :: st) σ Q ↔ isA g j 0 z ∧ Wx d 96 169 ls st (up σ g j z.toNat x) Q := u_iast d96_168
theorem d96_169 : decode (mB 96) 169 = .ok (.aload_n 0, 1) := by decide +kernel
theorem u96_169 {d : Nat} {ls : Lo} {st : List Va} {σ : Sg} {Q : Rs → Sg → Prop} : Wx d 96 169 ls st σ Q ↔ Lr (lget ls 0) (fun z => Wx d 96 170 ls (.inr (.inl z) :: st) σ Q) := u_aload_n d96_169
theorem d96_170 : decode (mB 96) 170 = .ok (.getfield 74, 3) := by decide +kernel
theorem u96_170 {d : Nat} {ls : Lo} {st : List Va} {σ : Sg} {Q : Rs → Sg → Prop} {g j : Nat} : Wx d 96 170 ls (vr g j :: st) σ Q ↔ isO g j 7 ∧ Wx d 96 173 ls (fvv σ g j 29 :: st) σ Q := u_get (w := (7, 29)) d96_170 rfl
theorem d96_173 : decode (mB 96) 173 = .ok (.iload_n 2, 1) := by decide +kernel
theorem u96_173 {d : Nat} {ls : Lo} {st : List Va} {σ : Sg} {Q : Rs → Sg → Prop} : Wx d 96 173 ls st σ Q ↔ Li (lget ls 2) (fun z => Wx d 96 174 ls (vi z :: st) σ Q) := u_iload_n d96_173
theorem d96_174 : decode (mB 96) 174 = .ok (.iload 6, 2) := by decide +kernel
theorem u96_174 {d : Nat} {ls : Lo} {st : List Va} {σ : Sg} {Q : Rs → Sg → Prop} : Wx d 96 174 ls st σ Q ↔ Li (lget ls 6) (fun z => Wx d 96 176 ls (vi z :: st) σ Q) := u_iload d96_174
theorem d96_176 : decode (mB 96) 176 = .ok (.iastore, 1) := by decide +kernel
theorem u96_176 {d : Nat} {ls : Lo} {st : List Va} {σ : Sg} {Q : Rs → Sg → Prop} {x z : Int} {g j : Nat} : Wx d 96 176 ls (vi x :: vi z :: vr g j :: st) σ Q ↔ isA g j 0 z ∧ Wx d 96 177 ls st (up σ g j z.toNat x) Q := u_iast d96_176
theorem d96_177 : decode (mB 96) 177 = .ok (.iinc 2 1, 3) := by decide +kernel
theorem u96_177 {d : Nat} {ls : Lo} {st : List Va} {σ : Sg} {Q : Rs → Sg → Prop} : Wx d 96 177 ls st σ Q ↔ Li (lget ls 2) (fun z => Wx d 96 180 (lset ls 2 (vi (z + 1))) st σ Q) := u_iinc d96_177 (by decide)
theorem d96_180 : decode (mB 96) 180 = .ok (.iinc 6 1, 3) := by decide +kernel
theorem u96_180 {d : Nat} {ls : Lo} {st : List Va} {σ : Sg} {Q : Rs → Sg → Prop} : Wx d 96 180 ls st σ Q ↔ Li (lget ls 6) (fun z => Wx d 96 183 (lset ls 6 (vi (z + 1))) st σ Q) := u_iinc d96_180 (by decide)
theorem d96_183 : decode (mB 96) 183 = .ok (.goto (-94), 3) := by decide +kernel
theorem u96_183 {d : Nat} {ls : Lo} {st : List Va} {σ : Sg} {Q : Rs → Sg → Prop} : Wx d 96 183 ls st σ Q ↔ Wx d 96 89 ls st σ Q := u_goto d96_183 (by decide)
theorem d96_186 : decode (mB 96) 186 = .ok (.iinc 4 1, 3) := by decide +kernel
theorem u96_186 {d : Nat} {ls : Lo} {st : List Va} {σ : Sg} {Q : Rs → Sg → Prop} : Wx d 96 186 ls st σ Q ↔ Li (lget ls 4) (fun z => Wx d 96 189 (lset ls 4 (vi (z + 1))) st σ Q) := u_iinc d96_186 (by decide)
theorem d96_189 : decode (mB 96) 189 = .ok (.goto (-158), 3) := by decide +kernel
theorem u96_189 {d : Nat} {ls : Lo} {st : List Va} {σ : Sg} {Q : Rs → Sg → Prop} : Wx d 96 189 ls st σ Q ↔ Wx d 96 31 ls st σ Q := u_goto d96_189 (by decide)
theorem d96_192 : decode (mB 96) 192 = .ok (.iinc 3 1, 3) := by decide +kernel
theorem u96_192 {d : Nat} {ls : Lo} {st : List Va} {σ : Sg} {Q : Rs → Sg → Prop} : Wx d 96 192 ls st σ Q ↔ Li (lget ls 3) (fun z => Wx d 96 195 (lset ls 3 (vi (z + 1))) st σ Q) := u_iinc d96_192 (by decide)
theorem d96_195 : decode (mB 96) 195 = .ok (.goto (-182), 3) := by decide +kernel
theorem u96_195 {d : Nat} {ls : Lo} {st : List Va} {σ : Sg} {Q : Rs → Sg → Prop} : Wx d 96 195 ls st σ Q ↔ Wx d 96 13 ls st σ Q := u_goto d96_195 (by decide)
theorem d96_198 : decode (mB 96) 198 = .ok (.aload_n 0, 1) := by decide +kernel
theorem u96_198 {d : Nat} {ls : Lo} {st : List Va} {σ : Sg} {Q : Rs → Sg → Prop} : Wx d 96 198 ls st σ Q ↔ Lr (lget ls 0) (fun z => Wx d 96 199 ls (.inr (.inl z) :: st) σ Q) := u_aload_n d96_198
theorem d96_199 : decode (mB 96) 199 = .ok (.getfield 65, 3) := by decide +kernel
theorem u96_199 {d : Nat} {ls : Lo} {st : List Va} {σ : Sg} {Q : Rs → Sg → Prop} {g j : Nat} : Wx d 96 199 ls (vr g j :: st) σ Q ↔ isO g j 7 ∧ Wx d 96 202 ls (fvv σ g j 26 :: st) σ Q := u_get (w := (7, 26)) d96_199 rfl
theorem d96_202 : decode (mB 96) 202 = .ok (.iload_n 1, 1) := by decide +kernel
theorem u96_202 {d : Nat} {ls : Lo} {st : List Va} {σ : Sg} {Q : Rs → Sg → Prop} : Wx d 96 202 ls st σ Q ↔ Li (lget ls 1) (fun z => Wx d 96 203 ls (vi z :: st) σ Q) := u_iload_n d96_202
theorem d96_203 : decode (mB 96) 203 = .ok (.iload_n 2, 1) := by decide +kernel
theorem u96_203 {d : Nat} {ls : Lo} {st : List Va} {σ : Sg} {Q : Rs → Sg → Prop} : Wx d 96 203 ls st σ Q ↔ Li (lget ls 2) (fun z => Wx d 96 204 ls (vi z :: st) σ Q) := u_iload_n d96_203
theorem d96_204 : decode (mB 96) 204 = .ok (.sipush 400, 3) := by decide +kernel
theorem u96_204 {d : Nat} {ls : Lo} {st : List Va} {σ : Sg} {Q : Rs → Sg → Prop} : Wx d 96 204 ls st σ Q ↔ Wx d 96 207 ls (vi 400 :: st) σ Q := u_sipush d96_204 (by decide)
theorem d96_207 : decode (mB 96) 207 = .ok (.iload_n 1, 1) := by decide +kernel
theorem u96_207 {d : Nat} {ls : Lo} {st : List Va} {σ : Sg} {Q : Rs → Sg → Prop} : Wx d 96 207 ls st σ Q ↔ Li (lget ls 1) (fun z => Wx d 96 208 ls (vi z :: st) σ Q) := u_iload_n d96_207
theorem d96_208 : decode (mB 96) 208 = .ok (.imul, 1) := by decide +kernel
theorem u96_208 {d : Nat} {ls : Lo} {st : List Va} {σ : Sg} {Q : Rs → Sg → Prop} {a b : Int} : Wx d 96 208 ls (vi b :: vi a :: st) σ Q ↔ Wx d 96 209 ls (vi (a * b) :: st) σ Q := u_imul d96_208
theorem d96_209 : decode (mB 96) 209 = .ok (.isub, 1) := by decide +kernel
theorem u96_209 {d : Nat} {ls : Lo} {st : List Va} {σ : Sg} {Q : Rs → Sg → Prop} {a b : Int} : Wx d 96 209 ls (vi b :: vi a :: st) σ Q ↔ Wx d 96 210 ls (vi (a - b) :: st) σ Q := u_isub d96_209
theorem d96_210 : decode (mB 96) 210 = .ok (.iastore, 1) := by decide +kernel
theorem u96_210 {d : Nat} {ls : Lo} {st : List Va} {σ : Sg} {Q : Rs → Sg → Prop} {x z : Int} {g j : Nat} : Wx d 96 210 ls (vi x :: vi z :: vr g j :: st) σ Q ↔ isA g j 0 z ∧ Wx d 96 211 ls st (up σ g j z.toNat x) Q := u_iast d96_210
theorem d96_211 : decode (mB 96) 211 = .ok (.return_, 1) := by decide +kernel
theorem u96_211 {d : Nat} {ls : Lo} {σ : Sg} {Q : Rs → Sg → Prop} : Wx d 96 211 ls [] σ Q ↔ Q (.inl none) σ := u_vret d96_211 rfl
