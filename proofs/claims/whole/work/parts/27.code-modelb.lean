/-! 97: FiguredBassModel.places(I)I -/
theorem d97_0 : decode (mB 97) 0 = .ok (.aload_n 0, 1) := by decide +kernel
theorem u97_0 {d : Nat} {ls : Lo} {st : List Va} {σ : Sg} {Q : Rs → Sg → Prop} : Wx d 97 0 ls st σ Q ↔ Lr (lget ls 0) (fun z => Wx d 97 1 ls (.inr (.inl z) :: st) σ Q) := u_aload_n d97_0
theorem d97_1 : decode (mB 97) 1 = .ok (.aload_n 0, 1) := by decide +kernel
theorem u97_1 {d : Nat} {ls : Lo} {st : List Va} {σ : Sg} {Q : Rs → Sg → Prop} : Wx d 97 1 ls st σ Q ↔ Lr (lget ls 0) (fun z => Wx d 97 2 ls (.inr (.inl z) :: st) σ Q) := u_aload_n d97_1
theorem d97_2 : decode (mB 97) 2 = .ok (.iload_n 1, 1) := by decide +kernel
theorem u97_2 {d : Nat} {ls : Lo} {st : List Va} {σ : Sg} {Q : Rs → Sg → Prop} : Wx d 97 2 ls st σ Q ↔ Li (lget ls 1) (fun z => Wx d 97 3 ls (vi z :: st) σ Q) := u_iload_n d97_2
theorem d97_3 : decode (mB 97) 3 = .ok (.invokevirtual 132, 3) := by decide +kernel
theorem u97_3 {d : Nat} {ls : Lo} {st : List Va} {σ : Sg} {Q : Rs → Sg → Prop} {g j : Nat} {a1 : Va} : Wx (d + 1) 97 3 ls (a1 :: vr g j :: st) σ Q ↔ (isO g j 7 ∧ st.length ≤ 4 ∧ nlg [a1] = true) ∧ Wm d 81 [vr g j, a1] σ (Kc (d + 1) 97 6 ls st Q) := u_inv1 d97_3 rfl rfl rfl
theorem d97_6 : decode (mB 97) 6 = .ok (.ifCond .eq 7, 3) := by decide +kernel
theorem u97_6 {d : Nat} {ls : Lo} {st : List Va} {σ : Sg} {Q : Rs → Sg → Prop} {a : Int} (h : -2147483648 ≤ a ∧ a ≤ 2147483647) : Wx d 97 6 ls (vi a :: st) σ Q ↔ if a = 0 then Wx d 97 13 ls st σ Q else Wx d 97 9 ls st σ Q := u_ifeq d97_6 (by decide) h
theorem d97_9 : decode (mB 97) 9 = .ok (.iconst 1, 1) := by decide +kernel
theorem u97_9 {d : Nat} {ls : Lo} {st : List Va} {σ : Sg} {Q : Rs → Sg → Prop} : Wx d 97 9 ls st σ Q ↔ Wx d 97 10 ls (vi 1 :: st) σ Q := u_iconst d97_9
theorem d97_10 : decode (mB 97) 10 = .ok (.goto 16, 3) := by decide +kernel
theorem u97_10 {d : Nat} {ls : Lo} {st : List Va} {σ : Sg} {Q : Rs → Sg → Prop} : Wx d 97 10 ls st σ Q ↔ Wx d 97 26 ls st σ Q := u_goto d97_10 (by decide)
theorem d97_13 : decode (mB 97) 13 = .ok (.aload_n 0, 1) := by decide +kernel
theorem u97_13 {d : Nat} {ls : Lo} {st : List Va} {σ : Sg} {Q : Rs → Sg → Prop} : Wx d 97 13 ls st σ Q ↔ Lr (lget ls 0) (fun z => Wx d 97 14 ls (.inr (.inl z) :: st) σ Q) := u_aload_n d97_13
theorem d97_14 : decode (mB 97) 14 = .ok (.iload_n 1, 1) := by decide +kernel
theorem u97_14 {d : Nat} {ls : Lo} {st : List Va} {σ : Sg} {Q : Rs → Sg → Prop} : Wx d 97 14 ls st σ Q ↔ Li (lget ls 1) (fun z => Wx d 97 15 ls (vi z :: st) σ Q) := u_iload_n d97_14
theorem d97_15 : decode (mB 97) 15 = .ok (.invokevirtual 185, 3) := by decide +kernel
theorem u97_15 {d : Nat} {ls : Lo} {st : List Va} {σ : Sg} {Q : Rs → Sg → Prop} {g j : Nat} {a1 : Va} : Wx (d + 1) 97 15 ls (a1 :: vr g j :: st) σ Q ↔ (isO g j 7 ∧ st.length ≤ 4 ∧ nlg [a1] = true) ∧ Wm d 92 [vr g j, a1] σ (Kc (d + 1) 97 18 ls st Q) := u_inv1 d97_15 rfl rfl rfl
theorem d97_18 : decode (mB 97) 18 = .ok (.ifCond .ne 7, 3) := by decide +kernel
theorem u97_18 {d : Nat} {ls : Lo} {st : List Va} {σ : Sg} {Q : Rs → Sg → Prop} {a : Int} (h : -2147483648 ≤ a ∧ a ≤ 2147483647) : Wx d 97 18 ls (vi a :: st) σ Q ↔ if ¬ a = 0 then Wx d 97 25 ls st σ Q else Wx d 97 21 ls st σ Q := u_ifne d97_18 (by decide) h
theorem d97_21 : decode (mB 97) 21 = .ok (.iconst 2, 1) := by decide +kernel
theorem u97_21 {d : Nat} {ls : Lo} {st : List Va} {σ : Sg} {Q : Rs → Sg → Prop} : Wx d 97 21 ls st σ Q ↔ Wx d 97 22 ls (vi 2 :: st) σ Q := u_iconst d97_21
theorem d97_22 : decode (mB 97) 22 = .ok (.goto 4, 3) := by decide +kernel
theorem u97_22 {d : Nat} {ls : Lo} {st : List Va} {σ : Sg} {Q : Rs → Sg → Prop} : Wx d 97 22 ls st σ Q ↔ Wx d 97 26 ls st σ Q := u_goto d97_22 (by decide)
theorem d97_25 : decode (mB 97) 25 = .ok (.iconst 0, 1) := by decide +kernel
theorem u97_25 {d : Nat} {ls : Lo} {st : List Va} {σ : Sg} {Q : Rs → Sg → Prop} : Wx d 97 25 ls st σ Q ↔ Wx d 97 26 ls (vi 0 :: st) σ Q := u_iconst d97_25
theorem d97_26 : decode (mB 97) 26 = .ok (.putfield 108, 3) := by decide +kernel
theorem u97_26 {d : Nat} {ls : Lo} {st : List Va} {σ : Sg} {Q : Rs → Sg → Prop} {z : Int} {g j : Nat} : Wx d 97 26 ls (vi z :: vr g j :: st) σ Q ↔ (isO g j 7 ∧ rf g j 0 = none) ∧ Wx d 97 29 ls st (up σ g j 0 z) Q := u_put (w := (7, 0)) d97_26 rfl rfl rfl
theorem d97_29 : decode (mB 97) 29 = .ok (.aload_n 0, 1) := by decide +kernel
theorem u97_29 {d : Nat} {ls : Lo} {st : List Va} {σ : Sg} {Q : Rs → Sg → Prop} : Wx d 97 29 ls st σ Q ↔ Lr (lget ls 0) (fun z => Wx d 97 30 ls (.inr (.inl z) :: st) σ Q) := u_aload_n d97_29
theorem d97_30 : decode (mB 97) 30 = .ok (.getfield 108, 3) := by decide +kernel
theorem u97_30 {d : Nat} {ls : Lo} {st : List Va} {σ : Sg} {Q : Rs → Sg → Prop} {g j : Nat} : Wx d 97 30 ls (vr g j :: st) σ Q ↔ isO g j 7 ∧ Wx d 97 33 ls (fvv σ g j 0 :: st) σ Q := u_get (w := (7, 0)) d97_30 rfl
theorem d97_33 : decode (mB 97) 33 = .ok (.ifCond .eq 5, 3) := by decide +kernel
theorem u97_33 {d : Nat} {ls : Lo} {st : List Va} {σ : Sg} {Q : Rs → Sg → Prop} {a : Int} (h : -2147483648 ≤ a ∧ a ≤ 2147483647) : Wx d 97 33 ls (vi a :: st) σ Q ↔ if a = 0 then Wx d 97 38 ls st σ Q else Wx d 97 36 ls st σ Q := u_ifeq d97_33 (by decide) h
theorem d97_36 : decode (mB 97) 36 = .ok (.iconst 0, 1) := by decide +kernel
theorem u97_36 {d : Nat} {ls : Lo} {st : List Va} {σ : Sg} {Q : Rs → Sg → Prop} : Wx d 97 36 ls st σ Q ↔ Wx d 97 37 ls (vi 0 :: st) σ Q := u_iconst d97_36
theorem d97_37 : decode (mB 97) 37 = .ok (.ireturn, 1) := by decide +kernel
theorem u97_37 {d : Nat} {ls : Lo} {σ : Sg} {Q : Rs → Sg → Prop} {z : Int} : Wx d 97 37 ls [vi z] σ Q ↔ Q (.inl (some (vi z))) σ := u_iret d97_37 rfl
theorem d97_38 : decode (mB 97) 38 = .ok (.aload_n 0, 1) := by decide +kernel
theorem u97_38 {d : Nat} {ls : Lo} {st : List Va} {σ : Sg} {Q : Rs → Sg → Prop} : Wx d 97 38 ls st σ Q ↔ Lr (lget ls 0) (fun z => Wx d 97 39 ls (.inr (.inl z) :: st) σ Q) := u_aload_n d97_38
theorem d97_39 : decode (mB 97) 39 = .ok (.iload_n 1, 1) := by decide +kernel
theorem u97_39 {d : Nat} {ls : Lo} {st : List Va} {σ : Sg} {Q : Rs → Sg → Prop} : Wx d 97 39 ls st σ Q ↔ Li (lget ls 1) (fun z => Wx d 97 40 ls (vi z :: st) σ Q) := u_iload_n d97_39
theorem d97_40 : decode (mB 97) 40 = .ok (.invokevirtual 188, 3) := by decide +kernel
theorem u97_40 {d : Nat} {ls : Lo} {st : List Va} {σ : Sg} {Q : Rs → Sg → Prop} {g j : Nat} {a1 : Va} : Wx (d + 1) 97 40 ls (a1 :: vr g j :: st) σ Q ↔ (isO g j 7 ∧ st.length ≤ 4 ∧ nlg [a1] = true) ∧ Wm d 96 [vr g j, a1] σ (Kc (d + 1) 97 43 ls st Q) := u_inv1 d97_40 rfl rfl rfl
theorem d97_43 : decode (mB 97) 43 = .ok (.aload_n 0, 1) := by decide +kernel
theorem u97_43 {d : Nat} {ls : Lo} {st : List Va} {σ : Sg} {Q : Rs → Sg → Prop} : Wx d 97 43 ls st σ Q ↔ Lr (lget ls 0) (fun z => Wx d 97 44 ls (.inr (.inl z) :: st) σ Q) := u_aload_n d97_43
theorem d97_44 : decode (mB 97) 44 = .ok (.getfield 65, 3) := by decide +kernel
theorem u97_44 {d : Nat} {ls : Lo} {st : List Va} {σ : Sg} {Q : Rs → Sg → Prop} {g j : Nat} : Wx d 97 44 ls (vr g j :: st) σ Q ↔ isO g j 7 ∧ Wx d 97 47 ls (fvv σ g j 26 :: st) σ Q := u_get (w := (7, 26)) d97_44 rfl
theorem d97_47 : decode (mB 97) 47 = .ok (.iload_n 1, 1) := by decide +kernel
theorem u97_47 {d : Nat} {ls : Lo} {st : List Va} {σ : Sg} {Q : Rs → Sg → Prop} : Wx d 97 47 ls st σ Q ↔ Li (lget ls 1) (fun z => Wx d 97 48 ls (vi z :: st) σ Q) := u_iload_n d97_47
theorem d97_48 : decode (mB 97) 48 = .ok (.iaload, 1) := by decide +kernel
theorem u97_48 {d : Nat} {ls : Lo} {st : List Va} {σ : Sg} {Q : Rs → Sg → Prop} {z : Int} {g j : Nat} : Wx d 97 48 ls (vi z :: vr g j :: st) σ Q ↔ On (ial σ g j z) (fun x => Wx d 97 49 ls (vi x :: st) σ Q) := u_iald d97_48
theorem d97_49 : decode (mB 97) 49 = .ok (.ireturn, 1) := by decide +kernel
theorem u97_49 {d : Nat} {ls : Lo} {σ : Sg} {Q : Rs → Sg → Prop} {z : Int} : Wx d 97 49 ls [vi z] σ Q ↔ Q (.inl (some (vi z))) σ := u_iret d97_49 rfl
/-! 98: FiguredBassModel.place(III)I -/
theorem d98_0 : decode (mB 98) 0 = .ok (.aload_n 0, 1) := by decide +kernel
theorem u98_0 {d : Nat} {ls : Lo} {st : List Va} {σ : Sg} {Q : Rs → Sg → Prop} : Wx d 98 0 ls st σ Q ↔ Lr (lget ls 0) (fun z => Wx d 98 1 ls (.inr (.inl z) :: st) σ Q) := u_aload_n d98_0
theorem d98_1 : decode (mB 98) 1 = .ok (.aload_n 0, 1) := by decide +kernel
theorem u98_1 {d : Nat} {ls : Lo} {st : List Va} {σ : Sg} {Q : Rs → Sg → Prop} : Wx d 98 1 ls st σ Q ↔ Lr (lget ls 0) (fun z => Wx d 98 2 ls (.inr (.inl z) :: st) σ Q) := u_aload_n d98_1
theorem d98_2 : decode (mB 98) 2 = .ok (.iload_n 1, 1) := by decide +kernel
theorem u98_2 {d : Nat} {ls : Lo} {st : List Va} {σ : Sg} {Q : Rs → Sg → Prop} : Wx d 98 2 ls st σ Q ↔ Li (lget ls 1) (fun z => Wx d 98 3 ls (vi z :: st) σ Q) := u_iload_n d98_2
theorem d98_3 : decode (mB 98) 3 = .ok (.invokevirtual 132, 3) := by decide +kernel
theorem u98_3 {d : Nat} {ls : Lo} {st : List Va} {σ : Sg} {Q : Rs → Sg → Prop} {g j : Nat} {a1 : Va} : Wx (d + 1) 98 3 ls (a1 :: vr g j :: st) σ Q ↔ (isO g j 7 ∧ st.length ≤ 4 ∧ nlg [a1] = true) ∧ Wm d 81 [vr g j, a1] σ (Kc (d + 1) 98 6 ls st Q) := u_inv1 d98_3 rfl rfl rfl
theorem d98_6 : decode (mB 98) 6 = .ok (.ifCond .ne 12, 3) := by decide +kernel
theorem u98_6 {d : Nat} {ls : Lo} {st : List Va} {σ : Sg} {Q : Rs → Sg → Prop} {a : Int} (h : -2147483648 ≤ a ∧ a ≤ 2147483647) : Wx d 98 6 ls (vi a :: st) σ Q ↔ if ¬ a = 0 then Wx d 98 18 ls st σ Q else Wx d 98 9 ls st σ Q := u_ifne d98_6 (by decide) h
theorem d98_9 : decode (mB 98) 9 = .ok (.iload_n 3, 1) := by decide +kernel
theorem u98_9 {d : Nat} {ls : Lo} {st : List Va} {σ : Sg} {Q : Rs → Sg → Prop} : Wx d 98 9 ls st σ Q ↔ Li (lget ls 3) (fun z => Wx d 98 10 ls (vi z :: st) σ Q) := u_iload_n d98_9
theorem d98_10 : decode (mB 98) 10 = .ok (.ifCond .lt 8, 3) := by decide +kernel
theorem u98_10 {d : Nat} {ls : Lo} {st : List Va} {σ : Sg} {Q : Rs → Sg → Prop} {a : Int} (h : -2147483648 ≤ a ∧ a ≤ 2147483647) : Wx d 98 10 ls (vi a :: st) σ Q ↔ if a < 0 then Wx d 98 18 ls st σ Q else Wx d 98 13 ls st σ Q := u_iflt d98_10 (by decide) h
theorem d98_13 : decode (mB 98) 13 = .ok (.iload_n 3, 1) := by decide +kernel
theorem u98_13 {d : Nat} {ls : Lo} {st : List Va} {σ : Sg} {Q : Rs → Sg → Prop} : Wx d 98 13 ls st σ Q ↔ Li (lget ls 3) (fun z => Wx d 98 14 ls (vi z :: st) σ Q) := u_iload_n d98_13
theorem d98_14 : decode (mB 98) 14 = .ok (.iconst 2, 1) := by decide +kernel
theorem u98_14 {d : Nat} {ls : Lo} {st : List Va} {σ : Sg} {Q : Rs → Sg → Prop} : Wx d 98 14 ls st σ Q ↔ Wx d 98 15 ls (vi 2 :: st) σ Q := u_iconst d98_14
theorem d98_15 : decode (mB 98) 15 = .ok (.if_icmp .le 7, 3) := by decide +kernel
theorem u98_15 {d : Nat} {ls : Lo} {st : List Va} {σ : Sg} {Q : Rs → Sg → Prop} {a b : Int} (h : -2147483648 ≤ a ∧ a ≤ 2147483647) (h2 : -2147483648 ≤ b ∧ b ≤ 2147483647) : Wx d 98 15 ls (vi b :: vi a :: st) σ Q ↔ if a ≤ b then Wx d 98 22 ls st σ Q else Wx d 98 18 ls st σ Q := u_icle d98_15 (by decide) h h2
theorem d98_18 : decode (mB 98) 18 = .ok (.iconst 1, 1) := by decide +kernel
theorem u98_18 {d : Nat} {ls : Lo} {st : List Va} {σ : Sg} {Q : Rs → Sg → Prop} : Wx d 98 18 ls st σ Q ↔ Wx d 98 19 ls (vi 1 :: st) σ Q := u_iconst d98_18
theorem d98_19 : decode (mB 98) 19 = .ok (.goto 16, 3) := by decide +kernel
theorem u98_19 {d : Nat} {ls : Lo} {st : List Va} {σ : Sg} {Q : Rs → Sg → Prop} : Wx d 98 19 ls st σ Q ↔ Wx d 98 35 ls st σ Q := u_goto d98_19 (by decide)
theorem d98_22 : decode (mB 98) 22 = .ok (.aload_n 0, 1) := by decide +kernel
theorem u98_22 {d : Nat} {ls : Lo} {st : List Va} {σ : Sg} {Q : Rs → Sg → Prop} : Wx d 98 22 ls st σ Q ↔ Lr (lget ls 0) (fun z => Wx d 98 23 ls (.inr (.inl z) :: st) σ Q) := u_aload_n d98_22
theorem d98_23 : decode (mB 98) 23 = .ok (.iload_n 1, 1) := by decide +kernel
theorem u98_23 {d : Nat} {ls : Lo} {st : List Va} {σ : Sg} {Q : Rs → Sg → Prop} : Wx d 98 23 ls st σ Q ↔ Li (lget ls 1) (fun z => Wx d 98 24 ls (vi z :: st) σ Q) := u_iload_n d98_23
theorem d98_24 : decode (mB 98) 24 = .ok (.invokevirtual 185, 3) := by decide +kernel
theorem u98_24 {d : Nat} {ls : Lo} {st : List Va} {σ : Sg} {Q : Rs → Sg → Prop} {g j : Nat} {a1 : Va} : Wx (d + 1) 98 24 ls (a1 :: vr g j :: st) σ Q ↔ (isO g j 7 ∧ st.length ≤ 4 ∧ nlg [a1] = true) ∧ Wm d 92 [vr g j, a1] σ (Kc (d + 1) 98 27 ls st Q) := u_inv1 d98_24 rfl rfl rfl
theorem d98_27 : decode (mB 98) 27 = .ok (.ifCond .ne 7, 3) := by decide +kernel
theorem u98_27 {d : Nat} {ls : Lo} {st : List Va} {σ : Sg} {Q : Rs → Sg → Prop} {a : Int} (h : -2147483648 ≤ a ∧ a ≤ 2147483647) : Wx d 98 27 ls (vi a :: st) σ Q ↔ if ¬ a = 0 then Wx d 98 34 ls st σ Q else Wx d 98 30 ls st σ Q := u_ifne d98_27 (by decide) h
theorem d98_30 : decode (mB 98) 30 = .ok (.iconst 2, 1) := by decide +kernel
theorem u98_30 {d : Nat} {ls : Lo} {st : List Va} {σ : Sg} {Q : Rs → Sg → Prop} : Wx d 98 30 ls st σ Q ↔ Wx d 98 31 ls (vi 2 :: st) σ Q := u_iconst d98_30
theorem d98_31 : decode (mB 98) 31 = .ok (.goto 4, 3) := by decide +kernel
theorem u98_31 {d : Nat} {ls : Lo} {st : List Va} {σ : Sg} {Q : Rs → Sg → Prop} : Wx d 98 31 ls st σ Q ↔ Wx d 98 35 ls st σ Q := u_goto d98_31 (by decide)
theorem d98_34 : decode (mB 98) 34 = .ok (.iconst 0, 1) := by decide +kernel
theorem u98_34 {d : Nat} {ls : Lo} {st : List Va} {σ : Sg} {Q : Rs → Sg → Prop} : Wx d 98 34 ls st σ Q ↔ Wx d 98 35 ls (vi 0 :: st) σ Q := u_iconst d98_34
theorem d98_35 : decode (mB 98) 35 = .ok (.putfield 108, 3) := by decide +kernel
theorem u98_35 {d : Nat} {ls : Lo} {st : List Va} {σ : Sg} {Q : Rs → Sg → Prop} {z : Int} {g j : Nat} : Wx d 98 35 ls (vi z :: vr g j :: st) σ Q ↔ (isO g j 7 ∧ rf g j 0 = none) ∧ Wx d 98 38 ls st (up σ g j 0 z) Q := u_put (w := (7, 0)) d98_35 rfl rfl rfl
theorem d98_38 : decode (mB 98) 38 = .ok (.aload_n 0, 1) := by decide +kernel
theorem u98_38 {d : Nat} {ls : Lo} {st : List Va} {σ : Sg} {Q : Rs → Sg → Prop} : Wx d 98 38 ls st σ Q ↔ Lr (lget ls 0) (fun z => Wx d 98 39 ls (.inr (.inl z) :: st) σ Q) := u_aload_n d98_38
theorem d98_39 : decode (mB 98) 39 = .ok (.getfield 108, 3) := by decide +kernel
theorem u98_39 {d : Nat} {ls : Lo} {st : List Va} {σ : Sg} {Q : Rs → Sg → Prop} {g j : Nat} : Wx d 98 39 ls (vr g j :: st) σ Q ↔ isO g j 7 ∧ Wx d 98 42 ls (fvv σ g j 0 :: st) σ Q := u_get (w := (7, 0)) d98_39 rfl
theorem d98_42 : decode (mB 98) 42 = .ok (.ifCond .eq 5, 3) := by decide +kernel
theorem u98_42 {d : Nat} {ls : Lo} {st : List Va} {σ : Sg} {Q : Rs → Sg → Prop} {a : Int} (h : -2147483648 ≤ a ∧ a ≤ 2147483647) : Wx d 98 42 ls (vi a :: st) σ Q ↔ if a = 0 then Wx d 98 47 ls st σ Q else Wx d 98 45 ls st σ Q := u_ifeq d98_42 (by decide) h
theorem d98_45 : decode (mB 98) 45 = .ok (.iconst 0, 1) := by decide +kernel
theorem u98_45 {d : Nat} {ls : Lo} {st : List Va} {σ : Sg} {Q : Rs → Sg → Prop} : Wx d 98 45 ls st σ Q ↔ Wx d 98 46 ls (vi 0 :: st) σ Q := u_iconst d98_45
theorem d98_46 : decode (mB 98) 46 = .ok (.ireturn, 1) := by decide +kernel
theorem u98_46 {d : Nat} {ls : Lo} {σ : Sg} {Q : Rs → Sg → Prop} {z : Int} : Wx d 98 46 ls [vi z] σ Q ↔ Q (.inl (some (vi z))) σ := u_iret d98_46 rfl
theorem d98_47 : decode (mB 98) 47 = .ok (.aload_n 0, 1) := by decide +kernel
theorem u98_47 {d : Nat} {ls : Lo} {st : List Va} {σ : Sg} {Q : Rs → Sg → Prop} : Wx d 98 47 ls st σ Q ↔ Lr (lget ls 0) (fun z => Wx d 98 48 ls (.inr (.inl z) :: st) σ Q) := u_aload_n d98_47
theorem d98_48 : decode (mB 98) 48 = .ok (.iload_n 1, 1) := by decide +kernel
theorem u98_48 {d : Nat} {ls : Lo} {st : List Va} {σ : Sg} {Q : Rs → Sg → Prop} : Wx d 98 48 ls st σ Q ↔ Li (lget ls 1) (fun z => Wx d 98 49 ls (vi z :: st) σ Q) := u_iload_n d98_48
theorem d98_49 : decode (mB 98) 49 = .ok (.invokevirtual 188, 3) := by decide +kernel
theorem u98_49 {d : Nat} {ls : Lo} {st : List Va} {σ : Sg} {Q : Rs → Sg → Prop} {g j : Nat} {a1 : Va} : Wx (d + 1) 98 49 ls (a1 :: vr g j :: st) σ Q ↔ (isO g j 7 ∧ st.length ≤ 4 ∧ nlg [a1] = true) ∧ Wm d 96 [vr g j, a1] σ (Kc (d + 1) 98 52 ls st Q) := u_inv1 d98_49 rfl rfl rfl
theorem d98_52 : decode (mB 98) 52 = .ok (.aload_n 0, 1) := by decide +kernel
theorem u98_52 {d : Nat} {ls : Lo} {st : List Va} {σ : Sg} {Q : Rs → Sg → Prop} : Wx d 98 52 ls st σ Q ↔ Lr (lget ls 0) (fun z => Wx d 98 53 ls (.inr (.inl z) :: st) σ Q) := u_aload_n d98_52
theorem d98_53 : decode (mB 98) 53 = .ok (.iload_n 2, 1) := by decide +kernel
theorem u98_53 {d : Nat} {ls : Lo} {st : List Va} {σ : Sg} {Q : Rs → Sg → Prop} : Wx d 98 53 ls st σ Q ↔ Li (lget ls 2) (fun z => Wx d 98 54 ls (vi z :: st) σ Q) := u_iload_n d98_53
theorem d98_54 : decode (mB 98) 54 = .ok (.ifCond .lt 13, 3) := by decide +kernel
theorem u98_54 {d : Nat} {ls : Lo} {st : List Va} {σ : Sg} {Q : Rs → Sg → Prop} {a : Int} (h : -2147483648 ≤ a ∧ a ≤ 2147483647) : Wx d 98 54 ls (vi a :: st) σ Q ↔ if a < 0 then Wx d 98 67 ls st σ Q else Wx d 98 57 ls st σ Q := u_iflt d98_54 (by decide) h
theorem d98_57 : decode (mB 98) 57 = .ok (.iload_n 2, 1) := by decide +kernel
theorem u98_57 {d : Nat} {ls : Lo} {st : List Va} {σ : Sg} {Q : Rs → Sg → Prop} : Wx d 98 57 ls st σ Q ↔ Li (lget ls 2) (fun z => Wx d 98 58 ls (vi z :: st) σ Q) := u_iload_n d98_57
theorem d98_58 : decode (mB 98) 58 = .ok (.aload_n 0, 1) := by decide +kernel
theorem u98_58 {d : Nat} {ls : Lo} {st : List Va} {σ : Sg} {Q : Rs → Sg → Prop} : Wx d 98 58 ls st σ Q ↔ Lr (lget ls 0) (fun z => Wx d 98 59 ls (.inr (.inl z) :: st) σ Q) := u_aload_n d98_58
theorem d98_59 : decode (mB 98) 59 = .ok (.getfield 65, 3) := by decide +kernel
theorem u98_59 {d : Nat} {ls : Lo} {st : List Va} {σ : Sg} {Q : Rs → Sg → Prop} {g j : Nat} : Wx d 98 59 ls (vr g j :: st) σ Q ↔ isO g j 7 ∧ Wx d 98 62 ls (fvv σ g j 26 :: st) σ Q := u_get (w := (7, 26)) d98_59 rfl
theorem d98_62 : decode (mB 98) 62 = .ok (.iload_n 1, 1) := by decide +kernel
theorem u98_62 {d : Nat} {ls : Lo} {st : List Va} {σ : Sg} {Q : Rs → Sg → Prop} : Wx d 98 62 ls st σ Q ↔ Li (lget ls 1) (fun z => Wx d 98 63 ls (vi z :: st) σ Q) := u_iload_n d98_62
theorem d98_63 : decode (mB 98) 63 = .ok (.iaload, 1) := by decide +kernel
theorem u98_63 {d : Nat} {ls : Lo} {st : List Va} {σ : Sg} {Q : Rs → Sg → Prop} {z : Int} {g j : Nat} : Wx d 98 63 ls (vi z :: vr g j :: st) σ Q ↔ On (ial σ g j z) (fun x => Wx d 98 64 ls (vi x :: st) σ Q) := u_iald d98_63
theorem d98_64 : decode (mB 98) 64 = .ok (.if_icmp .lt 7, 3) := by decide +kernel
theorem u98_64 {d : Nat} {ls : Lo} {st : List Va} {σ : Sg} {Q : Rs → Sg → Prop} {a b : Int} (h : -2147483648 ≤ a ∧ a ≤ 2147483647) (h2 : -2147483648 ≤ b ∧ b ≤ 2147483647) : Wx d 98 64 ls (vi b :: vi a :: st) σ Q ↔ if a < b then Wx d 98 71 ls st σ Q else Wx d 98 67 ls st σ Q := u_iclt d98_64 (by decide) h h2
theorem d98_67 : decode (mB 98) 67 = .ok (.iconst 3, 1) := by decide +kernel
theorem u98_67 {d : Nat} {ls : Lo} {st : List Va} {σ : Sg} {Q : Rs → Sg → Prop} : Wx d 98 67 ls st σ Q ↔ Wx d 98 68 ls (vi 3 :: st) σ Q := u_iconst d98_67
theorem d98_68 : decode (mB 98) 68 = .ok (.goto 4, 3) := by decide +kernel
theorem u98_68 {d : Nat} {ls : Lo} {st : List Va} {σ : Sg} {Q : Rs → Sg → Prop} : Wx d 98 68 ls st σ Q ↔ Wx d 98 72 ls st σ Q := u_goto d98_68 (by decide)
theorem d98_71 : decode (mB 98) 71 = .ok (.iconst 0, 1) := by decide +kernel
theorem u98_71 {d : Nat} {ls : Lo} {st : List Va} {σ : Sg} {Q : Rs → Sg → Prop} : Wx d 98 71 ls st σ Q ↔ Wx d 98 72 ls (vi 0 :: st) σ Q := u_iconst d98_71
theorem d98_72 : decode (mB 98) 72 = .ok (.putfield 108, 3) := by decide +kernel
theorem u98_72 {d : Nat} {ls : Lo} {st : List Va} {σ : Sg} {Q : Rs → Sg → Prop} {z : Int} {g j : Nat} : Wx d 98 72 ls (vi z :: vr g j :: st) σ Q ↔ (isO g j 7 ∧ rf g j 0 = none) ∧ Wx d 98 75 ls st (up σ g j 0 z) Q := u_put (w := (7, 0)) d98_72 rfl rfl rfl
theorem d98_75 : decode (mB 98) 75 = .ok (.aload_n 0, 1) := by decide +kernel
theorem u98_75 {d : Nat} {ls : Lo} {st : List Va} {σ : Sg} {Q : Rs → Sg → Prop} : Wx d 98 75 ls st σ Q ↔ Lr (lget ls 0) (fun z => Wx d 98 76 ls (.inr (.inl z) :: st) σ Q) := u_aload_n d98_75
theorem d98_76 : decode (mB 98) 76 = .ok (.getfield 108, 3) := by decide +kernel
theorem u98_76 {d : Nat} {ls : Lo} {st : List Va} {σ : Sg} {Q : Rs → Sg → Prop} {g j : Nat} : Wx d 98 76 ls (vr g j :: st) σ Q ↔ isO g j 7 ∧ Wx d 98 79 ls (fvv σ g j 0 :: st) σ Q := u_get (w := (7, 0)) d98_76 rfl
theorem d98_79 : decode (mB 98) 79 = .ok (.ifCond .eq 5, 3) := by decide +kernel
theorem u98_79 {d : Nat} {ls : Lo} {st : List Va} {σ : Sg} {Q : Rs → Sg → Prop} {a : Int} (h : -2147483648 ≤ a ∧ a ≤ 2147483647) : Wx d 98 79 ls (vi a :: st) σ Q ↔ if a = 0 then Wx d 98 84 ls st σ Q else Wx d 98 82 ls st σ Q := u_ifeq d98_79 (by decide) h
theorem d98_82 : decode (mB 98) 82 = .ok (.iconst 0, 1) := by decide +kernel
theorem u98_82 {d : Nat} {ls : Lo} {st : List Va} {σ : Sg} {Q : Rs → Sg → Prop} : Wx d 98 82 ls st σ Q ↔ Wx d 98 83 ls (vi 0 :: st) σ Q := u_iconst d98_82
theorem d98_83 : decode (mB 98) 83 = .ok (.ireturn, 1) := by decide +kernel
theorem u98_83 {d : Nat} {ls : Lo} {σ : Sg} {Q : Rs → Sg → Prop} {z : Int} : Wx d 98 83 ls [vi z] σ Q ↔ Q (.inl (some (vi z))) σ := u_iret d98_83 rfl
theorem d98_84 : decode (mB 98) 84 = .ok (.sipush 400, 3) := by decide +kernel
theorem u98_84 {d : Nat} {ls : Lo} {st : List Va} {σ : Sg} {Q : Rs → Sg → Prop} : Wx d 98 84 ls st σ Q ↔ Wx d 98 87 ls (vi 400 :: st) σ Q := u_sipush d98_84 (by decide)
theorem d98_87 : decode (mB 98) 87 = .ok (.iload_n 1, 1) := by decide +kernel
theorem u98_87 {d : Nat} {ls : Lo} {st : List Va} {σ : Sg} {Q : Rs → Sg → Prop} : Wx d 98 87 ls st σ Q ↔ Li (lget ls 1) (fun z => Wx d 98 88 ls (vi z :: st) σ Q) := u_iload_n d98_87
theorem d98_88 : decode (mB 98) 88 = .ok (.imul, 1) := by decide +kernel
theorem u98_88 {d : Nat} {ls : Lo} {st : List Va} {σ : Sg} {Q : Rs → Sg → Prop} {a b : Int} : Wx d 98 88 ls (vi b :: vi a :: st) σ Q ↔ Wx d 98 89 ls (vi (a * b) :: st) σ Q := u_imul d98_88
theorem d98_89 : decode (mB 98) 89 = .ok (.iload_n 2, 1) := by decide +kernel
theorem u98_89 {d : Nat} {ls : Lo} {st : List Va} {σ : Sg} {Q : Rs → Sg → Prop} : Wx d 98 89 ls st σ Q ↔ Li (lget ls 2) (fun z => Wx d 98 90 ls (vi z :: st) σ Q) := u_iload_n d98_89
theorem d98_90 : decode (mB 98) 90 = .ok (.iadd, 1) := by decide +kernel
theorem u98_90 {d : Nat} {ls : Lo} {st : List Va} {σ : Sg} {Q : Rs → Sg → Prop} {a b : Int} : Wx d 98 90 ls (vi b :: vi a :: st) σ Q ↔ Wx d 98 91 ls (vi (a + b) :: st) σ Q := u_iadd d98_90
theorem d98_91 : decode (mB 98) 91 = .ok (.istore 4, 2) := by decide +kernel
theorem u98_91 {d : Nat} {ls : Lo} {st : List Va} {σ : Sg} {Q : Rs → Sg → Prop} {z : Int} : Wx d 98 91 ls (vi z :: st) σ Q ↔ Wx d 98 93 (lset ls 4 (vi z)) st σ Q := u_istore d98_91 (by decide)
theorem d98_93 : decode (mB 98) 93 = .ok (.iload_n 3, 1) := by decide +kernel
theorem u98_93 {d : Nat} {ls : Lo} {st : List Va} {σ : Sg} {Q : Rs → Sg → Prop} : Wx d 98 93 ls st σ Q ↔ Li (lget ls 3) (fun z => Wx d 98 94 ls (vi z :: st) σ Q) := u_iload_n d98_93
theorem d98_94 : decode (mB 98) 94 = .ok (.ifCond .ne 13, 3) := by decide +kernel
theorem u98_94 {d : Nat} {ls : Lo} {st : List Va} {σ : Sg} {Q : Rs → Sg → Prop} {a : Int} (h : -2147483648 ≤ a ∧ a ≤ 2147483647) : Wx d 98 94 ls (vi a :: st) σ Q ↔ if ¬ a = 0 then Wx d 98 107 ls st σ Q else Wx d 98 97 ls st σ Q := u_ifne d98_94 (by decide) h
theorem d98_97 : decode (mB 98) 97 = .ok (.aload_n 0, 1) := by decide +kernel
theorem u98_97 {d : Nat} {ls : Lo} {st : List Va} {σ : Sg} {Q : Rs → Sg → Prop} : Wx d 98 97 ls st σ Q ↔ Lr (lget ls 0) (fun z => Wx d 98 98 ls (.inr (.inl z) :: st) σ Q) := u_aload_n d98_97
theorem d98_98 : decode (mB 98) 98 = .ok (.getfield 68, 3) := by decide +kernel
theorem u98_98 {d : Nat} {ls : Lo} {st : List Va} {σ : Sg} {Q : Rs → Sg → Prop} {g j : Nat} : Wx d 98 98 ls (vr g j :: st) σ Q ↔ isO g j 7 ∧ Wx d 98 101 ls (fvv σ g j 27 :: st) σ Q := u_get (w := (7, 27)) d98_98 rfl
theorem d98_101 : decode (mB 98) 101 = .ok (.iload 4, 2) := by decide +kernel
theorem u98_101 {d : Nat} {ls : Lo} {st : List Va} {σ : Sg} {Q : Rs → Sg → Prop} : Wx d 98 101 ls st σ Q ↔ Li (lget ls 4) (fun z => Wx d 98 103 ls (vi z :: st) σ Q) := u_iload d98_101
theorem d98_103 : decode (mB 98) 103 = .ok (.iaload, 1) := by decide +kernel
theorem u98_103 {d : Nat} {ls : Lo} {st : List Va} {σ : Sg} {Q : Rs → Sg → Prop} {z : Int} {g j : Nat} : Wx d 98 103 ls (vi z :: vr g j :: st) σ Q ↔ On (ial σ g j z) (fun x => Wx d 98 104 ls (vi x :: st) σ Q) := u_iald d98_103
theorem d98_104 : decode (mB 98) 104 = .ok (.goto 25, 3) := by decide +kernel
theorem u98_104 {d : Nat} {ls : Lo} {st : List Va} {σ : Sg} {Q : Rs → Sg → Prop} : Wx d 98 104 ls st σ Q ↔ Wx d 98 129 ls st σ Q := u_goto d98_104 (by decide)
theorem d98_107 : decode (mB 98) 107 = .ok (.iload_n 3, 1) := by decide +kernel
theorem u98_107 {d : Nat} {ls : Lo} {st : List Va} {σ : Sg} {Q : Rs → Sg → Prop} : Wx d 98 107 ls st σ Q ↔ Li (lget ls 3) (fun z => Wx d 98 108 ls (vi z :: st) σ Q) := u_iload_n d98_107
theorem d98_108 : decode (mB 98) 108 = .ok (.iconst 1, 1) := by decide +kernel
theorem u98_108 {d : Nat} {ls : Lo} {st : List Va} {σ : Sg} {Q : Rs → Sg → Prop} : Wx d 98 108 ls st σ Q ↔ Wx d 98 109 ls (vi 1 :: st) σ Q := u_iconst d98_108
theorem d98_109 : decode (mB 98) 109 = .ok (.if_icmp .ne 13, 3) := by decide +kernel
theorem u98_109 {d : Nat} {ls : Lo} {st : List Va} {σ : Sg} {Q : Rs → Sg → Prop} {a b : Int} (h : -2147483648 ≤ a ∧ a ≤ 2147483647) (h2 : -2147483648 ≤ b ∧ b ≤ 2147483647) : Wx d 98 109 ls (vi b :: vi a :: st) σ Q ↔ if ¬ a = b then Wx d 98 122 ls st σ Q else Wx d 98 112 ls st σ Q := u_icne d98_109 (by decide) h h2
theorem d98_112 : decode (mB 98) 112 = .ok (.aload_n 0, 1) := by decide +kernel
theorem u98_112 {d : Nat} {ls : Lo} {st : List Va} {σ : Sg} {Q : Rs → Sg → Prop} : Wx d 98 112 ls st σ Q ↔ Lr (lget ls 0) (fun z => Wx d 98 113 ls (.inr (.inl z) :: st) σ Q) := u_aload_n d98_112
theorem d98_113 : decode (mB 98) 113 = .ok (.getfield 71, 3) := by decide +kernel
theorem u98_113 {d : Nat} {ls : Lo} {st : List Va} {σ : Sg} {Q : Rs → Sg → Prop} {g j : Nat} : Wx d 98 113 ls (vr g j :: st) σ Q ↔ isO g j 7 ∧ Wx d 98 116 ls (fvv σ g j 28 :: st) σ Q := u_get (w := (7, 28)) d98_113 rfl
theorem d98_116 : decode (mB 98) 116 = .ok (.iload 4, 2) := by decide +kernel
theorem u98_116 {d : Nat} {ls : Lo} {st : List Va} {σ : Sg} {Q : Rs → Sg → Prop} : Wx d 98 116 ls st σ Q ↔ Li (lget ls 4) (fun z => Wx d 98 118 ls (vi z :: st) σ Q) := u_iload d98_116
theorem d98_118 : decode (mB 98) 118 = .ok (.iaload, 1) := by decide +kernel
theorem u98_118 {d : Nat} {ls : Lo} {st : List Va} {σ : Sg} {Q : Rs → Sg → Prop} {z : Int} {g j : Nat} : Wx d 98 118 ls (vi z :: vr g j :: st) σ Q ↔ On (ial σ g j z) (fun x => Wx d 98 119 ls (vi x :: st) σ Q) := u_iald d98_118
theorem d98_119 : decode (mB 98) 119 = .ok (.goto 10, 3) := by decide +kernel
theorem u98_119 {d : Nat} {ls : Lo} {st : List Va} {σ : Sg} {Q : Rs → Sg → Prop} : Wx d 98 119 ls st σ Q ↔ Wx d 98 129 ls st σ Q := u_goto d98_119 (by decide)
theorem d98_122 : decode (mB 98) 122 = .ok (.aload_n 0, 1) := by decide +kernel
theorem u98_122 {d : Nat} {ls : Lo} {st : List Va} {σ : Sg} {Q : Rs → Sg → Prop} : Wx d 98 122 ls st σ Q ↔ Lr (lget ls 0) (fun z => Wx d 98 123 ls (.inr (.inl z) :: st) σ Q) := u_aload_n d98_122
theorem d98_123 : decode (mB 98) 123 = .ok (.getfield 74, 3) := by decide +kernel
theorem u98_123 {d : Nat} {ls : Lo} {st : List Va} {σ : Sg} {Q : Rs → Sg → Prop} {g j : Nat} : Wx d 98 123 ls (vr g j :: st) σ Q ↔ isO g j 7 ∧ Wx d 98 126 ls (fvv σ g j 29 :: st) σ Q := u_get (w := (7, 29)) d98_123 rfl
theorem d98_126 : decode (mB 98) 126 = .ok (.iload 4, 2) := by decide +kernel
theorem u98_126 {d : Nat} {ls : Lo} {st : List Va} {σ : Sg} {Q : Rs → Sg → Prop} : Wx d 98 126 ls st σ Q ↔ Li (lget ls 4) (fun z => Wx d 98 128 ls (vi z :: st) σ Q) := u_iload d98_126
theorem d98_128 : decode (mB 98) 128 = .ok (.iaload, 1) := by decide +kernel
theorem u98_128 {d : Nat} {ls : Lo} {st : List Va} {σ : Sg} {Q : Rs → Sg → Prop} {z : Int} {g j : Nat} : Wx d 98 128 ls (vi z :: vr g j :: st) σ Q ↔ On (ial σ g j z) (fun x => Wx d 98 129 ls (vi x :: st) σ Q) := u_iald d98_128
theorem d98_129 : decode (mB 98) 129 = .ok (.ireturn, 1) := by decide +kernel
theorem u98_129 {d : Nat} {ls : Lo} {σ : Sg} {Q : Rs → Sg → Prop} {z : Int} : Wx d 98 129 ls [vi z] σ Q ↔ Q (.inl (some (vi z))) σ := u_iret d98_129 rfl
/-! 99: FiguredBassModel.lookAll(Z)Z -/
theorem d99_0 : decode (mB 99) 0 = .ok (.iconst 1, 1) := by decide +kernel
theorem u99_0 {d : Nat} {ls : Lo} {st : List Va} {σ : Sg} {Q : Rs → Sg → Prop} : Wx d 99 0 ls st σ Q ↔ Wx d 99 1 ls (vi 1 :: st) σ Q := u_iconst d99_0
theorem d99_1 : decode (mB 99) 1 = .ok (.istore_n 2, 1) := by decide +kernel
theorem u99_1 {d : Nat} {ls : Lo} {st : List Va} {σ : Sg} {Q : Rs → Sg → Prop} {z : Int} : Wx d 99 1 ls (vi z :: st) σ Q ↔ Wx d 99 2 (lset ls 2 (vi z)) st σ Q := u_istore_n d99_1 (by decide)
theorem d99_2 : decode (mB 99) 2 = .ok (.iconst 0, 1) := by decide +kernel
theorem u99_2 {d : Nat} {ls : Lo} {st : List Va} {σ : Sg} {Q : Rs → Sg → Prop} : Wx d 99 2 ls st σ Q ↔ Wx d 99 3 ls (vi 0 :: st) σ Q := u_iconst d99_2
theorem d99_3 : decode (mB 99) 3 = .ok (.istore_n 3, 1) := by decide +kernel
theorem u99_3 {d : Nat} {ls : Lo} {st : List Va} {σ : Sg} {Q : Rs → Sg → Prop} {z : Int} : Wx d 99 3 ls (vi z :: st) σ Q ↔ Wx d 99 4 (lset ls 3 (vi z)) st σ Q := u_istore_n d99_3 (by decide)
theorem d99_4 : decode (mB 99) 4 = .ok (.iload_n 3, 1) := by decide +kernel
theorem u99_4 {d : Nat} {ls : Lo} {st : List Va} {σ : Sg} {Q : Rs → Sg → Prop} : Wx d 99 4 ls st σ Q ↔ Li (lget ls 3) (fun z => Wx d 99 5 ls (vi z :: st) σ Q) := u_iload_n d99_4
theorem d99_5 : decode (mB 99) 5 = .ok (.aload_n 0, 1) := by decide +kernel
theorem u99_5 {d : Nat} {ls : Lo} {st : List Va} {σ : Sg} {Q : Rs → Sg → Prop} : Wx d 99 5 ls st σ Q ↔ Lr (lget ls 0) (fun z => Wx d 99 6 ls (.inr (.inl z) :: st) σ Q) := u_aload_n d99_5
theorem d99_6 : decode (mB 99) 6 = .ok (.getfield 22, 3) := by decide +kernel
theorem u99_6 {d : Nat} {ls : Lo} {st : List Va} {σ : Sg} {Q : Rs → Sg → Prop} {g j : Nat} : Wx d 99 6 ls (vr g j :: st) σ Q ↔ isO g j 7 ∧ Wx d 99 9 ls (fvv σ g j 7 :: st) σ Q := u_get (w := (7, 7)) d99_6 rfl
theorem d99_9 : decode (mB 99) 9 = .ok (.if_icmp .ge 27, 3) := by decide +kernel
theorem u99_9 {d : Nat} {ls : Lo} {st : List Va} {σ : Sg} {Q : Rs → Sg → Prop} {a b : Int} (h : -2147483648 ≤ a ∧ a ≤ 2147483647) (h2 : -2147483648 ≤ b ∧ b ≤ 2147483647) : Wx d 99 9 ls (vi b :: vi a :: st) σ Q ↔ if b ≤ a then Wx d 99 36 ls st σ Q else Wx d 99 12 ls st σ Q := u_icge d99_9 (by decide) h h2
theorem d99_12 : decode (mB 99) 12 = .ok (.iload_n 2, 1) := by decide +kernel
theorem u99_12 {d : Nat} {ls : Lo} {st : List Va} {σ : Sg} {Q : Rs → Sg → Prop} : Wx d 99 12 ls st σ Q ↔ Li (lget ls 2) (fun z => Wx d 99 13 ls (vi z :: st) σ Q) := u_iload_n d99_12
theorem d99_13 : decode (mB 99) 13 = .ok (.ifCond .eq 15, 3) := by decide +kernel
theorem u99_13 {d : Nat} {ls : Lo} {st : List Va} {σ : Sg} {Q : Rs → Sg → Prop} {a : Int} (h : -2147483648 ≤ a ∧ a ≤ 2147483647) : Wx d 99 13 ls (vi a :: st) σ Q ↔ if a = 0 then Wx d 99 28 ls st σ Q else Wx d 99 16 ls st σ Q := u_ifeq d99_13 (by decide) h
theorem d99_16 : decode (mB 99) 16 = .ok (.aload_n 0, 1) := by decide +kernel
theorem u99_16 {d : Nat} {ls : Lo} {st : List Va} {σ : Sg} {Q : Rs → Sg → Prop} : Wx d 99 16 ls st σ Q ↔ Lr (lget ls 0) (fun z => Wx d 99 17 ls (.inr (.inl z) :: st) σ Q) := u_aload_n d99_16
theorem d99_17 : decode (mB 99) 17 = .ok (.iload_n 3, 1) := by decide +kernel
theorem u99_17 {d : Nat} {ls : Lo} {st : List Va} {σ : Sg} {Q : Rs → Sg → Prop} : Wx d 99 17 ls st σ Q ↔ Li (lget ls 3) (fun z => Wx d 99 18 ls (vi z :: st) σ Q) := u_iload_n d99_17
theorem d99_18 : decode (mB 99) 18 = .ok (.invokevirtual 185, 3) := by decide +kernel
theorem u99_18 {d : Nat} {ls : Lo} {st : List Va} {σ : Sg} {Q : Rs → Sg → Prop} {g j : Nat} {a1 : Va} : Wx (d + 1) 99 18 ls (a1 :: vr g j :: st) σ Q ↔ (isO g j 7 ∧ st.length ≤ 4 ∧ nlg [a1] = true) ∧ Wm d 92 [vr g j, a1] σ (Kc (d + 1) 99 21 ls st Q) := u_inv1 d99_18 rfl rfl rfl
theorem d99_21 : decode (mB 99) 21 = .ok (.ifCond .eq 7, 3) := by decide +kernel
theorem u99_21 {d : Nat} {ls : Lo} {st : List Va} {σ : Sg} {Q : Rs → Sg → Prop} {a : Int} (h : -2147483648 ≤ a ∧ a ≤ 2147483647) : Wx d 99 21 ls (vi a :: st) σ Q ↔ if a = 0 then Wx d 99 28 ls st σ Q else Wx d 99 24 ls st σ Q := u_ifeq d99_21 (by decide) h
theorem d99_24 : decode (mB 99) 24 = .ok (.iconst 1, 1) := by decide +kernel
theorem u99_24 {d : Nat} {ls : Lo} {st : List Va} {σ : Sg} {Q : Rs → Sg → Prop} : Wx d 99 24 ls st σ Q ↔ Wx d 99 25 ls (vi 1 :: st) σ Q := u_iconst d99_24
theorem d99_25 : decode (mB 99) 25 = .ok (.goto 4, 3) := by decide +kernel
theorem u99_25 {d : Nat} {ls : Lo} {st : List Va} {σ : Sg} {Q : Rs → Sg → Prop} : Wx d 99 25 ls st σ Q ↔ Wx d 99 29 ls st σ Q := u_goto d99_25 (by decide)
theorem d99_28 : decode (mB 99) 28 = .ok (.iconst 0, 1) := by decide +kernel
theorem u99_28 {d : Nat} {ls : Lo} {st : List Va} {σ : Sg} {Q : Rs → Sg → Prop} : Wx d 99 28 ls st σ Q ↔ Wx d 99 29 ls (vi 0 :: st) σ Q := u_iconst d99_28
theorem d99_29 : decode (mB 99) 29 = .ok (.istore_n 2, 1) := by decide +kernel
theorem u99_29 {d : Nat} {ls : Lo} {st : List Va} {σ : Sg} {Q : Rs → Sg → Prop} {z : Int} : Wx d 99 29 ls (vi z :: st) σ Q ↔ Wx d 99 30 (lset ls 2 (vi z)) st σ Q := u_istore_n d99_29 (by decide)
theorem d99_30 : decode (mB 99) 30 = .ok (.iinc 3 1, 3) := by decide +kernel
theorem u99_30 {d : Nat} {ls : Lo} {st : List Va} {σ : Sg} {Q : Rs → Sg → Prop} : Wx d 99 30 ls st σ Q ↔ Li (lget ls 3) (fun z => Wx d 99 33 (lset ls 3 (vi (z + 1))) st σ Q) := u_iinc d99_30 (by decide)
theorem d99_33 : decode (mB 99) 33 = .ok (.goto (-29), 3) := by decide +kernel
theorem u99_33 {d : Nat} {ls : Lo} {st : List Va} {σ : Sg} {Q : Rs → Sg → Prop} : Wx d 99 33 ls st σ Q ↔ Wx d 99 4 ls st σ Q := u_goto d99_33 (by decide)
theorem d99_36 : decode (mB 99) 36 = .ok (.iconst 0, 1) := by decide +kernel
theorem u99_36 {d : Nat} {ls : Lo} {st : List Va} {σ : Sg} {Q : Rs → Sg → Prop} : Wx d 99 36 ls st σ Q ↔ Wx d 99 37 ls (vi 0 :: st) σ Q := u_iconst d99_36
theorem d99_37 : decode (mB 99) 37 = .ok (.istore_n 3, 1) := by decide +kernel
theorem u99_37 {d : Nat} {ls : Lo} {st : List Va} {σ : Sg} {Q : Rs → Sg → Prop} {z : Int} : Wx d 99 37 ls (vi z :: st) σ Q ↔ Wx d 99 38 (lset ls 3 (vi z)) st σ Q := u_istore_n d99_37 (by decide)
theorem d99_38 : decode (mB 99) 38 = .ok (.iload_n 3, 1) := by decide +kernel
theorem u99_38 {d : Nat} {ls : Lo} {st : List Va} {σ : Sg} {Q : Rs → Sg → Prop} : Wx d 99 38 ls st σ Q ↔ Li (lget ls 3) (fun z => Wx d 99 39 ls (vi z :: st) σ Q) := u_iload_n d99_38
theorem d99_39 : decode (mB 99) 39 = .ok (.aload_n 0, 1) := by decide +kernel
theorem u99_39 {d : Nat} {ls : Lo} {st : List Va} {σ : Sg} {Q : Rs → Sg → Prop} : Wx d 99 39 ls st σ Q ↔ Lr (lget ls 0) (fun z => Wx d 99 40 ls (.inr (.inl z) :: st) σ Q) := u_aload_n d99_39
theorem d99_40 : decode (mB 99) 40 = .ok (.getfield 22, 3) := by decide +kernel
theorem u99_40 {d : Nat} {ls : Lo} {st : List Va} {σ : Sg} {Q : Rs → Sg → Prop} {g j : Nat} : Wx d 99 40 ls (vr g j :: st) σ Q ↔ isO g j 7 ∧ Wx d 99 43 ls (fvv σ g j 7 :: st) σ Q := u_get (w := (7, 7)) d99_40 rfl
theorem d99_43 : decode (mB 99) 43 = .ok (.if_icmp .ge 118, 3) := by decide +kernel
theorem u99_43 {d : Nat} {ls : Lo} {st : List Va} {σ : Sg} {Q : Rs → Sg → Prop} {a b : Int} (h : -2147483648 ≤ a ∧ a ≤ 2147483647) (h2 : -2147483648 ≤ b ∧ b ≤ 2147483647) : Wx d 99 43 ls (vi b :: vi a :: st) σ Q ↔ if b ≤ a then Wx d 99 161 ls st σ Q else Wx d 99 46 ls st σ Q := u_icge d99_43 (by decide) h h2
theorem d99_46 : decode (mB 99) 46 = .ok (.iload_n 2, 1) := by decide +kernel
theorem u99_46 {d : Nat} {ls : Lo} {st : List Va} {σ : Sg} {Q : Rs → Sg → Prop} : Wx d 99 46 ls st σ Q ↔ Li (lget ls 2) (fun z => Wx d 99 47 ls (vi z :: st) σ Q) := u_iload_n d99_46
theorem d99_47 : decode (mB 99) 47 = .ok (.ifCond .eq 114, 3) := by decide +kernel
theorem u99_47 {d : Nat} {ls : Lo} {st : List Va} {σ : Sg} {Q : Rs → Sg → Prop} {a : Int} (h : -2147483648 ≤ a ∧ a ≤ 2147483647) : Wx d 99 47 ls (vi a :: st) σ Q ↔ if a = 0 then Wx d 99 161 ls st σ Q else Wx d 99 50 ls st σ Q := u_ifeq d99_47 (by decide) h
theorem d99_50 : decode (mB 99) 50 = .ok (.aload_n 0, 1) := by decide +kernel
theorem u99_50 {d : Nat} {ls : Lo} {st : List Va} {σ : Sg} {Q : Rs → Sg → Prop} : Wx d 99 50 ls st σ Q ↔ Lr (lget ls 0) (fun z => Wx d 99 51 ls (.inr (.inl z) :: st) σ Q) := u_aload_n d99_50
theorem d99_51 : decode (mB 99) 51 = .ok (.iload_n 3, 1) := by decide +kernel
theorem u99_51 {d : Nat} {ls : Lo} {st : List Va} {σ : Sg} {Q : Rs → Sg → Prop} : Wx d 99 51 ls st σ Q ↔ Li (lget ls 3) (fun z => Wx d 99 52 ls (vi z :: st) σ Q) := u_iload_n d99_51
theorem d99_52 : decode (mB 99) 52 = .ok (.invokevirtual 175, 3) := by decide +kernel
theorem u99_52 {d : Nat} {ls : Lo} {st : List Va} {σ : Sg} {Q : Rs → Sg → Prop} {g j : Nat} {a1 : Va} : Wx (d + 1) 99 52 ls (a1 :: vr g j :: st) σ Q ↔ (isO g j 7 ∧ st.length ≤ 4 ∧ nlg [a1] = true) ∧ Wm d 91 [vr g j, a1] σ (Kc (d + 1) 99 55 ls st Q) := u_inv1 d99_52 rfl rfl rfl
theorem d99_55 : decode (mB 99) 55 = .ok (.iconst 0, 1) := by decide +kernel
theorem u99_55 {d : Nat} {ls : Lo} {st : List Va} {σ : Sg} {Q : Rs → Sg → Prop} : Wx d 99 55 ls st σ Q ↔ Wx d 99 56 ls (vi 0 :: st) σ Q := u_iconst d99_55
theorem d99_56 : decode (mB 99) 56 = .ok (.istore 4, 2) := by decide +kernel
theorem u99_56 {d : Nat} {ls : Lo} {st : List Va} {σ : Sg} {Q : Rs → Sg → Prop} {z : Int} : Wx d 99 56 ls (vi z :: st) σ Q ↔ Wx d 99 58 (lset ls 4 (vi z)) st σ Q := u_istore d99_56 (by decide)
theorem d99_58 : decode (mB 99) 58 = .ok (.iload 4, 2) := by decide +kernel
theorem u99_58 {d : Nat} {ls : Lo} {st : List Va} {σ : Sg} {Q : Rs → Sg → Prop} : Wx d 99 58 ls st σ Q ↔ Li (lget ls 4) (fun z => Wx d 99 60 ls (vi z :: st) σ Q) := u_iload d99_58
theorem d99_60 : decode (mB 99) 60 = .ok (.bipush 12, 2) := by decide +kernel
theorem u99_60 {d : Nat} {ls : Lo} {st : List Va} {σ : Sg} {Q : Rs → Sg → Prop} : Wx d 99 60 ls st σ Q ↔ Wx d 99 62 ls (vi 12 :: st) σ Q := u_bipush d99_60 (by decide)
theorem d99_62 : decode (mB 99) 62 = .ok (.if_icmp .ge 22, 3) := by decide +kernel
theorem u99_62 {d : Nat} {ls : Lo} {st : List Va} {σ : Sg} {Q : Rs → Sg → Prop} {a b : Int} (h : -2147483648 ≤ a ∧ a ≤ 2147483647) (h2 : -2147483648 ≤ b ∧ b ≤ 2147483647) : Wx d 99 62 ls (vi b :: vi a :: st) σ Q ↔ if b ≤ a then Wx d 99 84 ls st σ Q else Wx d 99 65 ls st σ Q := u_icge d99_62 (by decide) h h2
theorem d99_65 : decode (mB 99) 65 = .ok (.aload_n 0, 1) := by decide +kernel
theorem u99_65 {d : Nat} {ls : Lo} {st : List Va} {σ : Sg} {Q : Rs → Sg → Prop} : Wx d 99 65 ls st σ Q ↔ Lr (lget ls 0) (fun z => Wx d 99 66 ls (.inr (.inl z) :: st) σ Q) := u_aload_n d99_65
theorem d99_66 : decode (mB 99) 66 = .ok (.getfield 56, 3) := by decide +kernel
theorem u99_66 {d : Nat} {ls : Lo} {st : List Va} {σ : Sg} {Q : Rs → Sg → Prop} {g j : Nat} : Wx d 99 66 ls (vr g j :: st) σ Q ↔ isO g j 7 ∧ Wx d 99 69 ls (fvv σ g j 23 :: st) σ Q := u_get (w := (7, 23)) d99_66 rfl
theorem d99_69 : decode (mB 99) 69 = .ok (.bipush 12, 2) := by decide +kernel
theorem u99_69 {d : Nat} {ls : Lo} {st : List Va} {σ : Sg} {Q : Rs → Sg → Prop} : Wx d 99 69 ls st σ Q ↔ Wx d 99 71 ls (vi 12 :: st) σ Q := u_bipush d99_69 (by decide)
theorem d99_71 : decode (mB 99) 71 = .ok (.iload_n 3, 1) := by decide +kernel
theorem u99_71 {d : Nat} {ls : Lo} {st : List Va} {σ : Sg} {Q : Rs → Sg → Prop} : Wx d 99 71 ls st σ Q ↔ Li (lget ls 3) (fun z => Wx d 99 72 ls (vi z :: st) σ Q) := u_iload_n d99_71
theorem d99_72 : decode (mB 99) 72 = .ok (.imul, 1) := by decide +kernel
theorem u99_72 {d : Nat} {ls : Lo} {st : List Va} {σ : Sg} {Q : Rs → Sg → Prop} {a b : Int} : Wx d 99 72 ls (vi b :: vi a :: st) σ Q ↔ Wx d 99 73 ls (vi (a * b) :: st) σ Q := u_imul d99_72
theorem d99_73 : decode (mB 99) 73 = .ok (.iload 4, 2) := by decide +kernel
theorem u99_73 {d : Nat} {ls : Lo} {st : List Va} {σ : Sg} {Q : Rs → Sg → Prop} : Wx d 99 73 ls st σ Q ↔ Li (lget ls 4) (fun z => Wx d 99 75 ls (vi z :: st) σ Q) := u_iload d99_73
theorem d99_75 : decode (mB 99) 75 = .ok (.iadd, 1) := by decide +kernel
theorem u99_75 {d : Nat} {ls : Lo} {st : List Va} {σ : Sg} {Q : Rs → Sg → Prop} {a b : Int} : Wx d 99 75 ls (vi b :: vi a :: st) σ Q ↔ Wx d 99 76 ls (vi (a + b) :: st) σ Q := u_iadd d99_75
theorem d99_76 : decode (mB 99) 76 = .ok (.iconst (-1), 1) := by decide +kernel
theorem u99_76 {d : Nat} {ls : Lo} {st : List Va} {σ : Sg} {Q : Rs → Sg → Prop} : Wx d 99 76 ls st σ Q ↔ Wx d 99 77 ls (vi (-1) :: st) σ Q := u_iconst d99_76
theorem d99_77 : decode (mB 99) 77 = .ok (.iastore, 1) := by decide +kernel
theorem u99_77 {d : Nat} {ls : Lo} {st : List Va} {σ : Sg} {Q : Rs → Sg → Prop} {x z : Int} {g j : Nat} : Wx d 99 77 ls (vi x :: vi z :: vr g j :: st) σ Q ↔ isA g j 0 z ∧ Wx d 99 78 ls st (up σ g j z.toNat x) Q := u_iast d99_77
theorem d99_78 : decode (mB 99) 78 = .ok (.iinc 4 1, 3) := by decide +kernel
theorem u99_78 {d : Nat} {ls : Lo} {st : List Va} {σ : Sg} {Q : Rs → Sg → Prop} : Wx d 99 78 ls st σ Q ↔ Li (lget ls 4) (fun z => Wx d 99 81 (lset ls 4 (vi (z + 1))) st σ Q) := u_iinc d99_78 (by decide)
theorem d99_81 : decode (mB 99) 81 = .ok (.goto (-23), 3) := by decide +kernel
theorem u99_81 {d : Nat} {ls : Lo} {st : List Va} {σ : Sg} {Q : Rs → Sg → Prop} : Wx d 99 81 ls st σ Q ↔ Wx d 99 58 ls st σ Q := u_goto d99_81 (by decide)
theorem d99_84 : decode (mB 99) 84 = .ok (.iconst 0, 1) := by decide +kernel
theorem u99_84 {d : Nat} {ls : Lo} {st : List Va} {σ : Sg} {Q : Rs → Sg → Prop} : Wx d 99 84 ls st σ Q ↔ Wx d 99 85 ls (vi 0 :: st) σ Q := u_iconst d99_84
theorem d99_85 : decode (mB 99) 85 = .ok (.istore 4, 2) := by decide +kernel
theorem u99_85 {d : Nat} {ls : Lo} {st : List Va} {σ : Sg} {Q : Rs → Sg → Prop} {z : Int} : Wx d 99 85 ls (vi z :: st) σ Q ↔ Wx d 99 87 (lset ls 4 (vi z)) st σ Q := u_istore d99_85 (by decide)
theorem d99_87 : decode (mB 99) 87 = .ok (.iload 4, 2) := by decide +kernel
theorem u99_87 {d : Nat} {ls : Lo} {st : List Va} {σ : Sg} {Q : Rs → Sg → Prop} : Wx d 99 87 ls st σ Q ↔ Li (lget ls 4) (fun z => Wx d 99 89 ls (vi z :: st) σ Q) := u_iload d99_87
theorem d99_89 : decode (mB 99) 89 = .ok (.aload_n 0, 1) := by decide +kernel
theorem u99_89 {d : Nat} {ls : Lo} {st : List Va} {σ : Sg} {Q : Rs → Sg → Prop} : Wx d 99 89 ls st σ Q ↔ Lr (lget ls 0) (fun z => Wx d 99 90 ls (.inr (.inl z) :: st) σ Q) := u_aload_n d99_89
theorem d99_90 : decode (mB 99) 90 = .ok (.getfield 153, 3) := by decide +kernel
theorem u99_90 {d : Nat} {ls : Lo} {st : List Va} {σ : Sg} {Q : Rs → Sg → Prop} {g j : Nat} : Wx d 99 90 ls (vr g j :: st) σ Q ↔ isO g j 7 ∧ Wx d 99 93 ls (fvv σ g j 17 :: st) σ Q := u_get (w := (7, 17)) d99_90 rfl
theorem d99_93 : decode (mB 99) 93 = .ok (.if_icmp .ge 33, 3) := by decide +kernel
theorem u99_93 {d : Nat} {ls : Lo} {st : List Va} {σ : Sg} {Q : Rs → Sg → Prop} {a b : Int} (h : -2147483648 ≤ a ∧ a ≤ 2147483647) (h2 : -2147483648 ≤ b ∧ b ≤ 2147483647) : Wx d 99 93 ls (vi b :: vi a :: st) σ Q ↔ if b ≤ a then Wx d 99 126 ls st σ Q else Wx d 99 96 ls st σ Q := u_icge d99_93 (by decide) h h2
theorem d99_96 : decode (mB 99) 96 = .ok (.aload_n 0, 1) := by decide +kernel
theorem u99_96 {d : Nat} {ls : Lo} {st : List Va} {σ : Sg} {Q : Rs → Sg → Prop} : Wx d 99 96 ls st σ Q ↔ Lr (lget ls 0) (fun z => Wx d 99 97 ls (.inr (.inl z) :: st) σ Q) := u_aload_n d99_96
theorem d99_97 : decode (mB 99) 97 = .ok (.getfield 56, 3) := by decide +kernel
theorem u99_97 {d : Nat} {ls : Lo} {st : List Va} {σ : Sg} {Q : Rs → Sg → Prop} {g j : Nat} : Wx d 99 97 ls (vr g j :: st) σ Q ↔ isO g j 7 ∧ Wx d 99 100 ls (fvv σ g j 23 :: st) σ Q := u_get (w := (7, 23)) d99_97 rfl
theorem d99_100 : decode (mB 99) 100 = .ok (.bipush 12, 2) := by decide +kernel
theorem u99_100 {d : Nat} {ls : Lo} {st : List Va} {σ : Sg} {Q : Rs → Sg → Prop} : Wx d 99 100 ls st σ Q ↔ Wx d 99 102 ls (vi 12 :: st) σ Q := u_bipush d99_100 (by decide)
theorem d99_102 : decode (mB 99) 102 = .ok (.iload_n 3, 1) := by decide +kernel
theorem u99_102 {d : Nat} {ls : Lo} {st : List Va} {σ : Sg} {Q : Rs → Sg → Prop} : Wx d 99 102 ls st σ Q ↔ Li (lget ls 3) (fun z => Wx d 99 103 ls (vi z :: st) σ Q) := u_iload_n d99_102
theorem d99_103 : decode (mB 99) 103 = .ok (.imul, 1) := by decide +kernel
theorem u99_103 {d : Nat} {ls : Lo} {st : List Va} {σ : Sg} {Q : Rs → Sg → Prop} {a b : Int} : Wx d 99 103 ls (vi b :: vi a :: st) σ Q ↔ Wx d 99 104 ls (vi (a * b) :: st) σ Q := u_imul d99_103
theorem d99_104 : decode (mB 99) 104 = .ok (.aload_n 0, 1) := by decide +kernel
theorem u99_104 {d : Nat} {ls : Lo} {st : List Va} {σ : Sg} {Q : Rs → Sg → Prop} : Wx d 99 104 ls st σ Q ↔ Lr (lget ls 0) (fun z => Wx d 99 105 ls (.inr (.inl z) :: st) σ Q) := u_aload_n d99_104
theorem d99_105 : decode (mB 99) 105 = .ok (.getfield 53, 3) := by decide +kernel
theorem u99_105 {d : Nat} {ls : Lo} {st : List Va} {σ : Sg} {Q : Rs → Sg → Prop} {g j : Nat} : Wx d 99 105 ls (vr g j :: st) σ Q ↔ isO g j 7 ∧ Wx d 99 108 ls (fvv σ g j 19 :: st) σ Q := u_get (w := (7, 19)) d99_105 rfl
theorem d99_108 : decode (mB 99) 108 = .ok (.iload 4, 2) := by decide +kernel
theorem u99_108 {d : Nat} {ls : Lo} {st : List Va} {σ : Sg} {Q : Rs → Sg → Prop} : Wx d 99 108 ls st σ Q ↔ Li (lget ls 4) (fun z => Wx d 99 110 ls (vi z :: st) σ Q) := u_iload d99_108
theorem d99_110 : decode (mB 99) 110 = .ok (.iaload, 1) := by decide +kernel
theorem u99_110 {d : Nat} {ls : Lo} {st : List Va} {σ : Sg} {Q : Rs → Sg → Prop} {z : Int} {g j : Nat} : Wx d 99 110 ls (vi z :: vr g j :: st) σ Q ↔ On (ial σ g j z) (fun x => Wx d 99 111 ls (vi x :: st) σ Q) := u_iald d99_110
theorem d99_111 : decode (mB 99) 111 = .ok (.iadd, 1) := by decide +kernel
theorem u99_111 {d : Nat} {ls : Lo} {st : List Va} {σ : Sg} {Q : Rs → Sg → Prop} {a b : Int} : Wx d 99 111 ls (vi b :: vi a :: st) σ Q ↔ Wx d 99 112 ls (vi (a + b) :: st) σ Q := u_iadd d99_111
theorem d99_112 : decode (mB 99) 112 = .ok (.aload_n 0, 1) := by decide +kernel
theorem u99_112 {d : Nat} {ls : Lo} {st : List Va} {σ : Sg} {Q : Rs → Sg → Prop} : Wx d 99 112 ls st σ Q ↔ Lr (lget ls 0) (fun z => Wx d 99 113 ls (.inr (.inl z) :: st) σ Q) := u_aload_n d99_112
theorem d99_113 : decode (mB 99) 113 = .ok (.getfield 50, 3) := by decide +kernel
theorem u99_113 {d : Nat} {ls : Lo} {st : List Va} {σ : Sg} {Q : Rs → Sg → Prop} {g j : Nat} : Wx d 99 113 ls (vr g j :: st) σ Q ↔ isO g j 7 ∧ Wx d 99 116 ls (fvv σ g j 18 :: st) σ Q := u_get (w := (7, 18)) d99_113 rfl
theorem d99_116 : decode (mB 99) 116 = .ok (.iload 4, 2) := by decide +kernel
theorem u99_116 {d : Nat} {ls : Lo} {st : List Va} {σ : Sg} {Q : Rs → Sg → Prop} : Wx d 99 116 ls st σ Q ↔ Li (lget ls 4) (fun z => Wx d 99 118 ls (vi z :: st) σ Q) := u_iload d99_116
theorem d99_118 : decode (mB 99) 118 = .ok (.iaload, 1) := by decide +kernel
theorem u99_118 {d : Nat} {ls : Lo} {st : List Va} {σ : Sg} {Q : Rs → Sg → Prop} {z : Int} {g j : Nat} : Wx d 99 118 ls (vi z :: vr g j :: st) σ Q ↔ On (ial σ g j z) (fun x => Wx d 99 119 ls (vi x :: st) σ Q) := u_iald d99_118
theorem d99_119 : decode (mB 99) 119 = .ok (.iastore, 1) := by decide +kernel
theorem u99_119 {d : Nat} {ls : Lo} {st : List Va} {σ : Sg} {Q : Rs → Sg → Prop} {x z : Int} {g j : Nat} : Wx d 99 119 ls (vi x :: vi z :: vr g j :: st) σ Q ↔ isA g j 0 z ∧ Wx d 99 120 ls st (up σ g j z.toNat x) Q := u_iast d99_119
theorem d99_120 : decode (mB 99) 120 = .ok (.iinc 4 1, 3) := by decide +kernel
theorem u99_120 {d : Nat} {ls : Lo} {st : List Va} {σ : Sg} {Q : Rs → Sg → Prop} : Wx d 99 120 ls st σ Q ↔ Li (lget ls 4) (fun z => Wx d 99 123 (lset ls 4 (vi (z + 1))) st σ Q) := u_iinc d99_120 (by decide)
theorem d99_123 : decode (mB 99) 123 = .ok (.goto (-36), 3) := by decide +kernel
theorem u99_123 {d : Nat} {ls : Lo} {st : List Va} {σ : Sg} {Q : Rs → Sg → Prop} : Wx d 99 123 ls st σ Q ↔ Wx d 99 87 ls st σ Q := u_goto d99_123 (by decide)
theorem d99_126 : decode (mB 99) 126 = .ok (.aload_n 0, 1) := by decide +kernel
theorem u99_126 {d : Nat} {ls : Lo} {st : List Va} {σ : Sg} {Q : Rs → Sg → Prop} : Wx d 99 126 ls st σ Q ↔ Lr (lget ls 0) (fun z => Wx d 99 127 ls (.inr (.inl z) :: st) σ Q) := u_aload_n d99_126
theorem d99_127 : decode (mB 99) 127 = .ok (.getfield 59, 3) := by decide +kernel
theorem u99_127 {d : Nat} {ls : Lo} {st : List Va} {σ : Sg} {Q : Rs → Sg → Prop} {g j : Nat} : Wx d 99 127 ls (vr g j :: st) σ Q ↔ isO g j 7 ∧ Wx d 99 130 ls (fvv σ g j 24 :: st) σ Q := u_get (w := (7, 24)) d99_127 rfl
theorem d99_130 : decode (mB 99) 130 = .ok (.iload_n 3, 1) := by decide +kernel
theorem u99_130 {d : Nat} {ls : Lo} {st : List Va} {σ : Sg} {Q : Rs → Sg → Prop} : Wx d 99 130 ls st σ Q ↔ Li (lget ls 3) (fun z => Wx d 99 131 ls (vi z :: st) σ Q) := u_iload_n d99_130
theorem d99_131 : decode (mB 99) 131 = .ok (.aload_n 0, 1) := by decide +kernel
theorem u99_131 {d : Nat} {ls : Lo} {st : List Va} {σ : Sg} {Q : Rs → Sg → Prop} : Wx d 99 131 ls st σ Q ↔ Lr (lget ls 0) (fun z => Wx d 99 132 ls (.inr (.inl z) :: st) σ Q) := u_aload_n d99_131
theorem d99_132 : decode (mB 99) 132 = .ok (.getfield 169, 3) := by decide +kernel
theorem u99_132 {d : Nat} {ls : Lo} {st : List Va} {σ : Sg} {Q : Rs → Sg → Prop} {g j : Nat} : Wx d 99 132 ls (vr g j :: st) σ Q ↔ isO g j 7 ∧ Wx d 99 135 ls (fvv σ g j 21 :: st) σ Q := u_get (w := (7, 21)) d99_132 rfl
theorem d99_135 : decode (mB 99) 135 = .ok (.iastore, 1) := by decide +kernel
theorem u99_135 {d : Nat} {ls : Lo} {st : List Va} {σ : Sg} {Q : Rs → Sg → Prop} {x z : Int} {g j : Nat} : Wx d 99 135 ls (vi x :: vi z :: vr g j :: st) σ Q ↔ isA g j 0 z ∧ Wx d 99 136 ls st (up σ g j z.toNat x) Q := u_iast d99_135
theorem d99_136 : decode (mB 99) 136 = .ok (.aload_n 0, 1) := by decide +kernel
theorem u99_136 {d : Nat} {ls : Lo} {st : List Va} {σ : Sg} {Q : Rs → Sg → Prop} : Wx d 99 136 ls st σ Q ↔ Lr (lget ls 0) (fun z => Wx d 99 137 ls (.inr (.inl z) :: st) σ Q) := u_aload_n d99_136
theorem d99_137 : decode (mB 99) 137 = .ok (.getfield 62, 3) := by decide +kernel
theorem u99_137 {d : Nat} {ls : Lo} {st : List Va} {σ : Sg} {Q : Rs → Sg → Prop} {g j : Nat} : Wx d 99 137 ls (vr g j :: st) σ Q ↔ isO g j 7 ∧ Wx d 99 140 ls (fvv σ g j 25 :: st) σ Q := u_get (w := (7, 25)) d99_137 rfl
theorem d99_140 : decode (mB 99) 140 = .ok (.iload_n 3, 1) := by decide +kernel
theorem u99_140 {d : Nat} {ls : Lo} {st : List Va} {σ : Sg} {Q : Rs → Sg → Prop} : Wx d 99 140 ls st σ Q ↔ Li (lget ls 3) (fun z => Wx d 99 141 ls (vi z :: st) σ Q) := u_iload_n d99_140
theorem d99_141 : decode (mB 99) 141 = .ok (.aload_n 0, 1) := by decide +kernel
theorem u99_141 {d : Nat} {ls : Lo} {st : List Va} {σ : Sg} {Q : Rs → Sg → Prop} : Wx d 99 141 ls st σ Q ↔ Lr (lget ls 0) (fun z => Wx d 99 142 ls (.inr (.inl z) :: st) σ Q) := u_aload_n d99_141
theorem d99_142 : decode (mB 99) 142 = .ok (.getfield 172, 3) := by decide +kernel
theorem u99_142 {d : Nat} {ls : Lo} {st : List Va} {σ : Sg} {Q : Rs → Sg → Prop} {g j : Nat} : Wx d 99 142 ls (vr g j :: st) σ Q ↔ isO g j 7 ∧ Wx d 99 145 ls (fvv σ g j 22 :: st) σ Q := u_get (w := (7, 22)) d99_142 rfl
theorem d99_145 : decode (mB 99) 145 = .ok (.iastore, 1) := by decide +kernel
theorem u99_145 {d : Nat} {ls : Lo} {st : List Va} {σ : Sg} {Q : Rs → Sg → Prop} {x z : Int} {g j : Nat} : Wx d 99 145 ls (vi x :: vi z :: vr g j :: st) σ Q ↔ isA g j 0 z ∧ Wx d 99 146 ls st (up σ g j z.toNat x) Q := u_iast d99_145
theorem d99_146 : decode (mB 99) 146 = .ok (.iload_n 1, 1) := by decide +kernel
theorem u99_146 {d : Nat} {ls : Lo} {st : List Va} {σ : Sg} {Q : Rs → Sg → Prop} : Wx d 99 146 ls st σ Q ↔ Li (lget ls 1) (fun z => Wx d 99 147 ls (vi z :: st) σ Q) := u_iload_n d99_146
theorem d99_147 : decode (mB 99) 147 = .ok (.ifCond .eq 8, 3) := by decide +kernel
theorem u99_147 {d : Nat} {ls : Lo} {st : List Va} {σ : Sg} {Q : Rs → Sg → Prop} {a : Int} (h : -2147483648 ≤ a ∧ a ≤ 2147483647) : Wx d 99 147 ls (vi a :: st) σ Q ↔ if a = 0 then Wx d 99 155 ls st σ Q else Wx d 99 150 ls st σ Q := u_ifeq d99_147 (by decide) h
theorem d99_150 : decode (mB 99) 150 = .ok (.aload_n 0, 1) := by decide +kernel
theorem u99_150 {d : Nat} {ls : Lo} {st : List Va} {σ : Sg} {Q : Rs → Sg → Prop} : Wx d 99 150 ls st σ Q ↔ Lr (lget ls 0) (fun z => Wx d 99 151 ls (.inr (.inl z) :: st) σ Q) := u_aload_n d99_150
theorem d99_151 : decode (mB 99) 151 = .ok (.iload_n 3, 1) := by decide +kernel
theorem u99_151 {d : Nat} {ls : Lo} {st : List Va} {σ : Sg} {Q : Rs → Sg → Prop} : Wx d 99 151 ls st σ Q ↔ Li (lget ls 3) (fun z => Wx d 99 152 ls (vi z :: st) σ Q) := u_iload_n d99_151
theorem d99_152 : decode (mB 99) 152 = .ok (.invokevirtual 188, 3) := by decide +kernel
theorem u99_152 {d : Nat} {ls : Lo} {st : List Va} {σ : Sg} {Q : Rs → Sg → Prop} {g j : Nat} {a1 : Va} : Wx (d + 1) 99 152 ls (a1 :: vr g j :: st) σ Q ↔ (isO g j 7 ∧ st.length ≤ 4 ∧ nlg [a1] = true) ∧ Wm d 96 [vr g j, a1] σ (Kc (d + 1) 99 155 ls st Q) := u_inv1 d99_152 rfl rfl rfl
theorem d99_155 : decode (mB 99) 155 = .ok (.iinc 3 1, 3) := by decide +kernel
theorem u99_155 {d : Nat} {ls : Lo} {st : List Va} {σ : Sg} {Q : Rs → Sg → Prop} : Wx d 99 155 ls st σ Q ↔ Li (lget ls 3) (fun z => Wx d 99 158 (lset ls 3 (vi (z + 1))) st σ Q) := u_iinc d99_155 (by decide)
theorem d99_158 : decode (mB 99) 158 = .ok (.goto (-120), 3) := by decide +kernel
theorem u99_158 {d : Nat} {ls : Lo} {st : List Va} {σ : Sg} {Q : Rs → Sg → Prop} : Wx d 99 158 ls st σ Q ↔ Wx d 99 38 ls st σ Q := u_goto d99_158 (by decide)
theorem d99_161 : decode (mB 99) 161 = .ok (.iload_n 2, 1) := by decide +kernel
theorem u99_161 {d : Nat} {ls : Lo} {st : List Va} {σ : Sg} {Q : Rs → Sg → Prop} : Wx d 99 161 ls st σ Q ↔ Li (lget ls 2) (fun z => Wx d 99 162 ls (vi z :: st) σ Q) := u_iload_n d99_161
theorem d99_162 : decode (mB 99) 162 = .ok (.ireturn, 1) := by decide +kernel
theorem u99_162 {d : Nat} {ls : Lo} {σ : Sg} {Q : Rs → Sg → Prop} {z : Int} (h : z = 0 ∨ z = 1) : Wx d 99 162 ls [vi z] σ Q ↔ Q (.inl (some (vi z))) σ := u_zret d99_162 rfl h
/-! 100: FiguredBassModel.apart(II)I -/
theorem d100_0 : decode (mB 100) 0 = .ok (.aload_n 0, 1) := by decide +kernel
theorem u100_0 {d : Nat} {ls : Lo} {st : List Va} {σ : Sg} {Q : Rs → Sg → Prop} : Wx d 100 0 ls st σ Q ↔ Lr (lget ls 0) (fun z => Wx d 100 1 ls (.inr (.inl z) :: st) σ Q) := u_aload_n d100_0
theorem d100_1 : decode (mB 100) 1 = .ok (.iload_n 1, 1) := by decide +kernel
theorem u100_1 {d : Nat} {ls : Lo} {st : List Va} {σ : Sg} {Q : Rs → Sg → Prop} : Wx d 100 1 ls st σ Q ↔ Li (lget ls 1) (fun z => Wx d 100 2 ls (vi z :: st) σ Q) := u_iload_n d100_1
theorem d100_2 : decode (mB 100) 2 = .ok (.iload_n 2, 1) := by decide +kernel
theorem u100_2 {d : Nat} {ls : Lo} {st : List Va} {σ : Sg} {Q : Rs → Sg → Prop} : Wx d 100 2 ls st σ Q ↔ Li (lget ls 2) (fun z => Wx d 100 3 ls (vi z :: st) σ Q) := u_iload_n d100_2
theorem d100_3 : decode (mB 100) 3 = .ok (.isub, 1) := by decide +kernel
theorem u100_3 {d : Nat} {ls : Lo} {st : List Va} {σ : Sg} {Q : Rs → Sg → Prop} {a b : Int} : Wx d 100 3 ls (vi b :: vi a :: st) σ Q ↔ Wx d 100 4 ls (vi (a - b) :: st) σ Q := u_isub d100_3
theorem d100_4 : decode (mB 100) 4 = .ok (.bipush 12, 2) := by decide +kernel
theorem u100_4 {d : Nat} {ls : Lo} {st : List Va} {σ : Sg} {Q : Rs → Sg → Prop} : Wx d 100 4 ls st σ Q ↔ Wx d 100 6 ls (vi 12 :: st) σ Q := u_bipush d100_4 (by decide)
theorem d100_6 : decode (mB 100) 6 = .ok (.invokevirtual 114, 3) := by decide +kernel
theorem u100_6 {d : Nat} {ls : Lo} {st : List Va} {σ : Sg} {Q : Rs → Sg → Prop} {g j : Nat} {a1 a2 : Va} : Wx (d + 1) 100 6 ls (a2 :: a1 :: vr g j :: st) σ Q ↔ (isO g j 7 ∧ st.length ≤ 4 ∧ nlg [a2, a1] = true) ∧ Wm d 75 [vr g j, a1, a2] σ (Kc (d + 1) 100 9 ls st Q) := u_inv2 d100_6 rfl rfl rfl
theorem d100_9 : decode (mB 100) 9 = .ok (.ireturn, 1) := by decide +kernel
theorem u100_9 {d : Nat} {ls : Lo} {σ : Sg} {Q : Rs → Sg → Prop} {z : Int} : Wx d 100 9 ls [vi z] σ Q ↔ Q (.inl (some (vi z))) σ := u_iret d100_9 rfl
/-! 101: FiguredBassModel.isParallel(II)Z -/
theorem d101_0 : decode (mB 101) 0 = .ok (.aload_n 0, 1) := by decide +kernel
theorem u101_0 {d : Nat} {ls : Lo} {st : List Va} {σ : Sg} {Q : Rs → Sg → Prop} : Wx d 101 0 ls st σ Q ↔ Lr (lget ls 0) (fun z => Wx d 101 1 ls (.inr (.inl z) :: st) σ Q) := u_aload_n d101_0
theorem d101_1 : decode (mB 101) 1 = .ok (.aload_n 0, 1) := by decide +kernel
theorem u101_1 {d : Nat} {ls : Lo} {st : List Va} {σ : Sg} {Q : Rs → Sg → Prop} : Wx d 101 1 ls st σ Q ↔ Lr (lget ls 0) (fun z => Wx d 101 2 ls (.inr (.inl z) :: st) σ Q) := u_aload_n d101_1
theorem d101_2 : decode (mB 101) 2 = .ok (.getfield 102, 3) := by decide +kernel
theorem u101_2 {d : Nat} {ls : Lo} {st : List Va} {σ : Sg} {Q : Rs → Sg → Prop} {g j : Nat} : Wx d 101 2 ls (vr g j :: st) σ Q ↔ isO g j 7 ∧ Wx d 101 5 ls (fvv σ g j 40 :: st) σ Q := u_get (w := (7, 40)) d101_2 rfl
theorem d101_5 : decode (mB 101) 5 = .ok (.iload_n 1, 1) := by decide +kernel
theorem u101_5 {d : Nat} {ls : Lo} {st : List Va} {σ : Sg} {Q : Rs → Sg → Prop} : Wx d 101 5 ls st σ Q ↔ Li (lget ls 1) (fun z => Wx d 101 6 ls (vi z :: st) σ Q) := u_iload_n d101_5
theorem d101_6 : decode (mB 101) 6 = .ok (.iaload, 1) := by decide +kernel
theorem u101_6 {d : Nat} {ls : Lo} {st : List Va} {σ : Sg} {Q : Rs → Sg → Prop} {z : Int} {g j : Nat} : Wx d 101 6 ls (vi z :: vr g j :: st) σ Q ↔ On (ial σ g j z) (fun x => Wx d 101 7 ls (vi x :: st) σ Q) := u_iald d101_6
theorem d101_7 : decode (mB 101) 7 = .ok (.aload_n 0, 1) := by decide +kernel
theorem u101_7 {d : Nat} {ls : Lo} {st : List Va} {σ : Sg} {Q : Rs → Sg → Prop} : Wx d 101 7 ls st σ Q ↔ Lr (lget ls 0) (fun z => Wx d 101 8 ls (.inr (.inl z) :: st) σ Q) := u_aload_n d101_7
theorem d101_8 : decode (mB 101) 8 = .ok (.getfield 102, 3) := by decide +kernel
theorem u101_8 {d : Nat} {ls : Lo} {st : List Va} {σ : Sg} {Q : Rs → Sg → Prop} {g j : Nat} : Wx d 101 8 ls (vr g j :: st) σ Q ↔ isO g j 7 ∧ Wx d 101 11 ls (fvv σ g j 40 :: st) σ Q := u_get (w := (7, 40)) d101_8 rfl
theorem d101_11 : decode (mB 101) 11 = .ok (.iload_n 2, 1) := by decide +kernel
theorem u101_11 {d : Nat} {ls : Lo} {st : List Va} {σ : Sg} {Q : Rs → Sg → Prop} : Wx d 101 11 ls st σ Q ↔ Li (lget ls 2) (fun z => Wx d 101 12 ls (vi z :: st) σ Q) := u_iload_n d101_11
theorem d101_12 : decode (mB 101) 12 = .ok (.iaload, 1) := by decide +kernel
theorem u101_12 {d : Nat} {ls : Lo} {st : List Va} {σ : Sg} {Q : Rs → Sg → Prop} {z : Int} {g j : Nat} : Wx d 101 12 ls (vi z :: vr g j :: st) σ Q ↔ On (ial σ g j z) (fun x => Wx d 101 13 ls (vi x :: st) σ Q) := u_iald d101_12
theorem d101_13 : decode (mB 101) 13 = .ok (.invokevirtual 191, 3) := by decide +kernel
theorem u101_13 {d : Nat} {ls : Lo} {st : List Va} {σ : Sg} {Q : Rs → Sg → Prop} {g j : Nat} {a1 a2 : Va} : Wx (d + 1) 101 13 ls (a2 :: a1 :: vr g j :: st) σ Q ↔ (isO g j 7 ∧ st.length ≤ 4 ∧ nlg [a2, a1] = true) ∧ Wm d 100 [vr g j, a1, a2] σ (Kc (d + 1) 101 16 ls st Q) := u_inv2 d101_13 rfl rfl rfl
theorem d101_16 : decode (mB 101) 16 = .ok (.istore_n 3, 1) := by decide +kernel
theorem u101_16 {d : Nat} {ls : Lo} {st : List Va} {σ : Sg} {Q : Rs → Sg → Prop} {z : Int} : Wx d 101 16 ls (vi z :: st) σ Q ↔ Wx d 101 17 (lset ls 3 (vi z)) st σ Q := u_istore_n d101_16 (by decide)
theorem d101_17 : decode (mB 101) 17 = .ok (.iload_n 3, 1) := by decide +kernel
theorem u101_17 {d : Nat} {ls : Lo} {st : List Va} {σ : Sg} {Q : Rs → Sg → Prop} : Wx d 101 17 ls st σ Q ↔ Li (lget ls 3) (fun z => Wx d 101 18 ls (vi z :: st) σ Q) := u_iload_n d101_17
theorem d101_18 : decode (mB 101) 18 = .ok (.ifCond .eq 9, 3) := by decide +kernel
theorem u101_18 {d : Nat} {ls : Lo} {st : List Va} {σ : Sg} {Q : Rs → Sg → Prop} {a : Int} (h : -2147483648 ≤ a ∧ a ≤ 2147483647) : Wx d 101 18 ls (vi a :: st) σ Q ↔ if a = 0 then Wx d 101 27 ls st σ Q else Wx d 101 21 ls st σ Q := u_ifeq d101_18 (by decide) h
theorem d101_21 : decode (mB 101) 21 = .ok (.iload_n 3, 1) := by decide +kernel
theorem u101_21 {d : Nat} {ls : Lo} {st : List Va} {σ : Sg} {Q : Rs → Sg → Prop} : Wx d 101 21 ls st σ Q ↔ Li (lget ls 3) (fun z => Wx d 101 22 ls (vi z :: st) σ Q) := u_iload_n d101_21
theorem d101_22 : decode (mB 101) 22 = .ok (.bipush 7, 2) := by decide +kernel
theorem u101_22 {d : Nat} {ls : Lo} {st : List Va} {σ : Sg} {Q : Rs → Sg → Prop} : Wx d 101 22 ls st σ Q ↔ Wx d 101 24 ls (vi 7 :: st) σ Q := u_bipush d101_22 (by decide)
theorem d101_24 : decode (mB 101) 24 = .ok (.if_icmp .ne 57, 3) := by decide +kernel
theorem u101_24 {d : Nat} {ls : Lo} {st : List Va} {σ : Sg} {Q : Rs → Sg → Prop} {a b : Int} (h : -2147483648 ≤ a ∧ a ≤ 2147483647) (h2 : -2147483648 ≤ b ∧ b ≤ 2147483647) : Wx d 101 24 ls (vi b :: vi a :: st) σ Q ↔ if ¬ a = b then Wx d 101 81 ls st σ Q else Wx d 101 27 ls st σ Q := u_icne d101_24 (by decide) h h2
theorem d101_27 : decode (mB 101) 27 = .ok (.aload_n 0, 1) := by decide +kernel
theorem u101_27 {d : Nat} {ls : Lo} {st : List Va} {σ : Sg} {Q : Rs → Sg → Prop} : Wx d 101 27 ls st σ Q ↔ Lr (lget ls 0) (fun z => Wx d 101 28 ls (.inr (.inl z) :: st) σ Q) := u_aload_n d101_27
theorem d101_28 : decode (mB 101) 28 = .ok (.aload_n 0, 1) := by decide +kernel
theorem u101_28 {d : Nat} {ls : Lo} {st : List Va} {σ : Sg} {Q : Rs → Sg → Prop} : Wx d 101 28 ls st σ Q ↔ Lr (lget ls 0) (fun z => Wx d 101 29 ls (.inr (.inl z) :: st) σ Q) := u_aload_n d101_28
theorem d101_29 : decode (mB 101) 29 = .ok (.getfield 105, 3) := by decide +kernel
theorem u101_29 {d : Nat} {ls : Lo} {st : List Va} {σ : Sg} {Q : Rs → Sg → Prop} {g j : Nat} : Wx d 101 29 ls (vr g j :: st) σ Q ↔ isO g j 7 ∧ Wx d 101 32 ls (fvv σ g j 41 :: st) σ Q := u_get (w := (7, 41)) d101_29 rfl
theorem d101_32 : decode (mB 101) 32 = .ok (.iload_n 1, 1) := by decide +kernel
theorem u101_32 {d : Nat} {ls : Lo} {st : List Va} {σ : Sg} {Q : Rs → Sg → Prop} : Wx d 101 32 ls st σ Q ↔ Li (lget ls 1) (fun z => Wx d 101 33 ls (vi z :: st) σ Q) := u_iload_n d101_32
theorem d101_33 : decode (mB 101) 33 = .ok (.iaload, 1) := by decide +kernel
theorem u101_33 {d : Nat} {ls : Lo} {st : List Va} {σ : Sg} {Q : Rs → Sg → Prop} {z : Int} {g j : Nat} : Wx d 101 33 ls (vi z :: vr g j :: st) σ Q ↔ On (ial σ g j z) (fun x => Wx d 101 34 ls (vi x :: st) σ Q) := u_iald d101_33
theorem d101_34 : decode (mB 101) 34 = .ok (.aload_n 0, 1) := by decide +kernel
theorem u101_34 {d : Nat} {ls : Lo} {st : List Va} {σ : Sg} {Q : Rs → Sg → Prop} : Wx d 101 34 ls st σ Q ↔ Lr (lget ls 0) (fun z => Wx d 101 35 ls (.inr (.inl z) :: st) σ Q) := u_aload_n d101_34
theorem d101_35 : decode (mB 101) 35 = .ok (.getfield 105, 3) := by decide +kernel
theorem u101_35 {d : Nat} {ls : Lo} {st : List Va} {σ : Sg} {Q : Rs → Sg → Prop} {g j : Nat} : Wx d 101 35 ls (vr g j :: st) σ Q ↔ isO g j 7 ∧ Wx d 101 38 ls (fvv σ g j 41 :: st) σ Q := u_get (w := (7, 41)) d101_35 rfl
theorem d101_38 : decode (mB 101) 38 = .ok (.iload_n 2, 1) := by decide +kernel
theorem u101_38 {d : Nat} {ls : Lo} {st : List Va} {σ : Sg} {Q : Rs → Sg → Prop} : Wx d 101 38 ls st σ Q ↔ Li (lget ls 2) (fun z => Wx d 101 39 ls (vi z :: st) σ Q) := u_iload_n d101_38
theorem d101_39 : decode (mB 101) 39 = .ok (.iaload, 1) := by decide +kernel
theorem u101_39 {d : Nat} {ls : Lo} {st : List Va} {σ : Sg} {Q : Rs → Sg → Prop} {z : Int} {g j : Nat} : Wx d 101 39 ls (vi z :: vr g j :: st) σ Q ↔ On (ial σ g j z) (fun x => Wx d 101 40 ls (vi x :: st) σ Q) := u_iald d101_39
theorem d101_40 : decode (mB 101) 40 = .ok (.invokevirtual 191, 3) := by decide +kernel
theorem u101_40 {d : Nat} {ls : Lo} {st : List Va} {σ : Sg} {Q : Rs → Sg → Prop} {g j : Nat} {a1 a2 : Va} : Wx (d + 1) 101 40 ls (a2 :: a1 :: vr g j :: st) σ Q ↔ (isO g j 7 ∧ st.length ≤ 4 ∧ nlg [a2, a1] = true) ∧ Wm d 100 [vr g j, a1, a2] σ (Kc (d + 1) 101 43 ls st Q) := u_inv2 d101_40 rfl rfl rfl
theorem d101_43 : decode (mB 101) 43 = .ok (.iload_n 3, 1) := by decide +kernel
theorem u101_43 {d : Nat} {ls : Lo} {st : List Va} {σ : Sg} {Q : Rs → Sg → Prop} : Wx d 101 43 ls st σ Q ↔ Li (lget ls 3) (fun z => Wx d 101 44 ls (vi z :: st) σ Q) := u_iload_n d101_43
theorem d101_44 : decode (mB 101) 44 = .ok (.if_icmp .ne 37, 3) := by decide +kernel
theorem u101_44 {d : Nat} {ls : Lo} {st : List Va} {σ : Sg} {Q : Rs → Sg → Prop} {a b : Int} (h : -2147483648 ≤ a ∧ a ≤ 2147483647) (h2 : -2147483648 ≤ b ∧ b ≤ 2147483647) : Wx d 101 44 ls (vi b :: vi a :: st) σ Q ↔ if ¬ a = b then Wx d 101 81 ls st σ Q else Wx d 101 47 ls st σ Q := u_icne d101_44 (by decide) h h2
theorem d101_47 : decode (mB 101) 47 = .ok (.aload_n 0, 1) := by decide +kernel
theorem u101_47 {d : Nat} {ls : Lo} {st : List Va} {σ : Sg} {Q : Rs → Sg → Prop} : Wx d 101 47 ls st σ Q ↔ Lr (lget ls 0) (fun z => Wx d 101 48 ls (.inr (.inl z) :: st) σ Q) := u_aload_n d101_47
theorem d101_48 : decode (mB 101) 48 = .ok (.getfield 102, 3) := by decide +kernel
theorem u101_48 {d : Nat} {ls : Lo} {st : List Va} {σ : Sg} {Q : Rs → Sg → Prop} {g j : Nat} : Wx d 101 48 ls (vr g j :: st) σ Q ↔ isO g j 7 ∧ Wx d 101 51 ls (fvv σ g j 40 :: st) σ Q := u_get (w := (7, 40)) d101_48 rfl
theorem d101_51 : decode (mB 101) 51 = .ok (.iload_n 1, 1) := by decide +kernel
theorem u101_51 {d : Nat} {ls : Lo} {st : List Va} {σ : Sg} {Q : Rs → Sg → Prop} : Wx d 101 51 ls st σ Q ↔ Li (lget ls 1) (fun z => Wx d 101 52 ls (vi z :: st) σ Q) := u_iload_n d101_51
theorem d101_52 : decode (mB 101) 52 = .ok (.iaload, 1) := by decide +kernel
theorem u101_52 {d : Nat} {ls : Lo} {st : List Va} {σ : Sg} {Q : Rs → Sg → Prop} {z : Int} {g j : Nat} : Wx d 101 52 ls (vi z :: vr g j :: st) σ Q ↔ On (ial σ g j z) (fun x => Wx d 101 53 ls (vi x :: st) σ Q) := u_iald d101_52
theorem d101_53 : decode (mB 101) 53 = .ok (.aload_n 0, 1) := by decide +kernel
theorem u101_53 {d : Nat} {ls : Lo} {st : List Va} {σ : Sg} {Q : Rs → Sg → Prop} : Wx d 101 53 ls st σ Q ↔ Lr (lget ls 0) (fun z => Wx d 101 54 ls (.inr (.inl z) :: st) σ Q) := u_aload_n d101_53
theorem d101_54 : decode (mB 101) 54 = .ok (.getfield 105, 3) := by decide +kernel
theorem u101_54 {d : Nat} {ls : Lo} {st : List Va} {σ : Sg} {Q : Rs → Sg → Prop} {g j : Nat} : Wx d 101 54 ls (vr g j :: st) σ Q ↔ isO g j 7 ∧ Wx d 101 57 ls (fvv σ g j 41 :: st) σ Q := u_get (w := (7, 41)) d101_54 rfl
theorem d101_57 : decode (mB 101) 57 = .ok (.iload_n 1, 1) := by decide +kernel
theorem u101_57 {d : Nat} {ls : Lo} {st : List Va} {σ : Sg} {Q : Rs → Sg → Prop} : Wx d 101 57 ls st σ Q ↔ Li (lget ls 1) (fun z => Wx d 101 58 ls (vi z :: st) σ Q) := u_iload_n d101_57
theorem d101_58 : decode (mB 101) 58 = .ok (.iaload, 1) := by decide +kernel
theorem u101_58 {d : Nat} {ls : Lo} {st : List Va} {σ : Sg} {Q : Rs → Sg → Prop} {z : Int} {g j : Nat} : Wx d 101 58 ls (vi z :: vr g j :: st) σ Q ↔ On (ial σ g j z) (fun x => Wx d 101 59 ls (vi x :: st) σ Q) := u_iald d101_58
theorem d101_59 : decode (mB 101) 59 = .ok (.if_icmp .eq 22, 3) := by decide +kernel
theorem u101_59 {d : Nat} {ls : Lo} {st : List Va} {σ : Sg} {Q : Rs → Sg → Prop} {a b : Int} (h : -2147483648 ≤ a ∧ a ≤ 2147483647) (h2 : -2147483648 ≤ b ∧ b ≤ 2147483647) : Wx d 101 59 ls (vi b :: vi a :: st) σ Q ↔ if a = b then Wx d 101 81 ls st σ Q else Wx d 101 62 ls st σ Q := u_iceq d101_59 (by decide) h h2
theorem d101_62 : decode (mB 101) 62 = .ok (.aload_n 0, 1) := by decide +kernel
theorem u101_62 {d : Nat} {ls : Lo} {st : List Va} {σ : Sg} {Q : Rs → Sg → Prop} : Wx d 101 62 ls st σ Q ↔ Lr (lget ls 0) (fun z => Wx d 101 63 ls (.inr (.inl z) :: st) σ Q) := u_aload_n d101_62
theorem d101_63 : decode (mB 101) 63 = .ok (.getfield 102, 3) := by decide +kernel
theorem u101_63 {d : Nat} {ls : Lo} {st : List Va} {σ : Sg} {Q : Rs → Sg → Prop} {g j : Nat} : Wx d 101 63 ls (vr g j :: st) σ Q ↔ isO g j 7 ∧ Wx d 101 66 ls (fvv σ g j 40 :: st) σ Q := u_get (w := (7, 40)) d101_63 rfl
theorem d101_66 : decode (mB 101) 66 = .ok (.iload_n 2, 1) := by decide +kernel
theorem u101_66 {d : Nat} {ls : Lo} {st : List Va} {σ : Sg} {Q : Rs → Sg → Prop} : Wx d 101 66 ls st σ Q ↔ Li (lget ls 2) (fun z => Wx d 101 67 ls (vi z :: st) σ Q) := u_iload_n d101_66
theorem d101_67 : decode (mB 101) 67 = .ok (.iaload, 1) := by decide +kernel
theorem u101_67 {d : Nat} {ls : Lo} {st : List Va} {σ : Sg} {Q : Rs → Sg → Prop} {z : Int} {g j : Nat} : Wx d 101 67 ls (vi z :: vr g j :: st) σ Q ↔ On (ial σ g j z) (fun x => Wx d 101 68 ls (vi x :: st) σ Q) := u_iald d101_67
theorem d101_68 : decode (mB 101) 68 = .ok (.aload_n 0, 1) := by decide +kernel
theorem u101_68 {d : Nat} {ls : Lo} {st : List Va} {σ : Sg} {Q : Rs → Sg → Prop} : Wx d 101 68 ls st σ Q ↔ Lr (lget ls 0) (fun z => Wx d 101 69 ls (.inr (.inl z) :: st) σ Q) := u_aload_n d101_68
theorem d101_69 : decode (mB 101) 69 = .ok (.getfield 105, 3) := by decide +kernel
theorem u101_69 {d : Nat} {ls : Lo} {st : List Va} {σ : Sg} {Q : Rs → Sg → Prop} {g j : Nat} : Wx d 101 69 ls (vr g j :: st) σ Q ↔ isO g j 7 ∧ Wx d 101 72 ls (fvv σ g j 41 :: st) σ Q := u_get (w := (7, 41)) d101_69 rfl
theorem d101_72 : decode (mB 101) 72 = .ok (.iload_n 2, 1) := by decide +kernel
theorem u101_72 {d : Nat} {ls : Lo} {st : List Va} {σ : Sg} {Q : Rs → Sg → Prop} : Wx d 101 72 ls st σ Q ↔ Li (lget ls 2) (fun z => Wx d 101 73 ls (vi z :: st) σ Q) := u_iload_n d101_72
theorem d101_73 : decode (mB 101) 73 = .ok (.iaload, 1) := by decide +kernel
theorem u101_73 {d : Nat} {ls : Lo} {st : List Va} {σ : Sg} {Q : Rs → Sg → Prop} {z : Int} {g j : Nat} : Wx d 101 73 ls (vi z :: vr g j :: st) σ Q ↔ On (ial σ g j z) (fun x => Wx d 101 74 ls (vi x :: st) σ Q) := u_iald d101_73
theorem d101_74 : decode (mB 101) 74 = .ok (.if_icmp .eq 7, 3) := by decide +kernel
theorem u101_74 {d : Nat} {ls : Lo} {st : List Va} {σ : Sg} {Q : Rs → Sg → Prop} {a b : Int} (h : -2147483648 ≤ a ∧ a ≤ 2147483647) (h2 : -2147483648 ≤ b ∧ b ≤ 2147483647) : Wx d 101 74 ls (vi b :: vi a :: st) σ Q ↔ if a = b then Wx d 101 81 ls st σ Q else Wx d 101 77 ls st σ Q := u_iceq d101_74 (by decide) h h2
theorem d101_77 : decode (mB 101) 77 = .ok (.iconst 1, 1) := by decide +kernel
theorem u101_77 {d : Nat} {ls : Lo} {st : List Va} {σ : Sg} {Q : Rs → Sg → Prop} : Wx d 101 77 ls st σ Q ↔ Wx d 101 78 ls (vi 1 :: st) σ Q := u_iconst d101_77
theorem d101_78 : decode (mB 101) 78 = .ok (.goto 4, 3) := by decide +kernel
theorem u101_78 {d : Nat} {ls : Lo} {st : List Va} {σ : Sg} {Q : Rs → Sg → Prop} : Wx d 101 78 ls st σ Q ↔ Wx d 101 82 ls st σ Q := u_goto d101_78 (by decide)
theorem d101_81 : decode (mB 101) 81 = .ok (.iconst 0, 1) := by decide +kernel
theorem u101_81 {d : Nat} {ls : Lo} {st : List Va} {σ : Sg} {Q : Rs → Sg → Prop} : Wx d 101 81 ls st σ Q ↔ Wx d 101 82 ls (vi 0 :: st) σ Q := u_iconst d101_81
theorem d101_82 : decode (mB 101) 82 = .ok (.ireturn, 1) := by decide +kernel
theorem u101_82 {d : Nat} {ls : Lo} {σ : Sg} {Q : Rs → Sg → Prop} {z : Int} (h : z = 0 ∨ z = 1) : Wx d 101 82 ls [vi z] σ Q ↔ Q (.inl (some (vi z))) σ := u_zret d101_82 rfl h
/-! 102: FiguredBassModel.breaksLeading(I)Z -/
theorem d102_0 : decode (mB 102) 0 = .ok (.iload_n 1, 1) := by decide +kernel
theorem u102_0 {d : Nat} {ls : Lo} {st : List Va} {σ : Sg} {Q : Rs → Sg → Prop} : Wx d 102 0 ls st σ Q ↔ Li (lget ls 1) (fun z => Wx d 102 1 ls (vi z :: st) σ Q) := u_iload_n d102_0
theorem d102_1 : decode (mB 102) 1 = .ok (.ifCond .eq 8, 3) := by decide +kernel
theorem u102_1 {d : Nat} {ls : Lo} {st : List Va} {σ : Sg} {Q : Rs → Sg → Prop} {a : Int} (h : -2147483648 ≤ a ∧ a ≤ 2147483647) : Wx d 102 1 ls (vi a :: st) σ Q ↔ if a = 0 then Wx d 102 9 ls st σ Q else Wx d 102 4 ls st σ Q := u_ifeq d102_1 (by decide) h
theorem d102_4 : decode (mB 102) 4 = .ok (.iload_n 1, 1) := by decide +kernel
theorem u102_4 {d : Nat} {ls : Lo} {st : List Va} {σ : Sg} {Q : Rs → Sg → Prop} : Wx d 102 4 ls st σ Q ↔ Li (lget ls 1) (fun z => Wx d 102 5 ls (vi z :: st) σ Q) := u_iload_n d102_4
theorem d102_5 : decode (mB 102) 5 = .ok (.iconst 3, 1) := by decide +kernel
theorem u102_5 {d : Nat} {ls : Lo} {st : List Va} {σ : Sg} {Q : Rs → Sg → Prop} : Wx d 102 5 ls st σ Q ↔ Wx d 102 6 ls (vi 3 :: st) σ Q := u_iconst d102_5
theorem d102_6 : decode (mB 102) 6 = .ok (.if_icmp .ne 55, 3) := by decide +kernel
theorem u102_6 {d : Nat} {ls : Lo} {st : List Va} {σ : Sg} {Q : Rs → Sg → Prop} {a b : Int} (h : -2147483648 ≤ a ∧ a ≤ 2147483647) (h2 : -2147483648 ≤ b ∧ b ≤ 2147483647) : Wx d 102 6 ls (vi b :: vi a :: st) σ Q ↔ if ¬ a = b then Wx d 102 61 ls st σ Q else Wx d 102 9 ls st σ Q := u_icne d102_6 (by decide) h h2
theorem d102_9 : decode (mB 102) 9 = .ok (.aload_n 0, 1) := by decide +kernel
theorem u102_9 {d : Nat} {ls : Lo} {st : List Va} {σ : Sg} {Q : Rs → Sg → Prop} : Wx d 102 9 ls st σ Q ↔ Lr (lget ls 0) (fun z => Wx d 102 10 ls (.inr (.inl z) :: st) σ Q) := u_aload_n d102_9
theorem d102_10 : decode (mB 102) 10 = .ok (.getfield 102, 3) := by decide +kernel
theorem u102_10 {d : Nat} {ls : Lo} {st : List Va} {σ : Sg} {Q : Rs → Sg → Prop} {g j : Nat} : Wx d 102 10 ls (vr g j :: st) σ Q ↔ isO g j 7 ∧ Wx d 102 13 ls (fvv σ g j 40 :: st) σ Q := u_get (w := (7, 40)) d102_10 rfl
theorem d102_13 : decode (mB 102) 13 = .ok (.iload_n 1, 1) := by decide +kernel
theorem u102_13 {d : Nat} {ls : Lo} {st : List Va} {σ : Sg} {Q : Rs → Sg → Prop} : Wx d 102 13 ls st σ Q ↔ Li (lget ls 1) (fun z => Wx d 102 14 ls (vi z :: st) σ Q) := u_iload_n d102_13
theorem d102_14 : decode (mB 102) 14 = .ok (.iaload, 1) := by decide +kernel
theorem u102_14 {d : Nat} {ls : Lo} {st : List Va} {σ : Sg} {Q : Rs → Sg → Prop} {z : Int} {g j : Nat} : Wx d 102 14 ls (vi z :: vr g j :: st) σ Q ↔ On (ial σ g j z) (fun x => Wx d 102 15 ls (vi x :: st) σ Q) := u_iald d102_14
theorem d102_15 : decode (mB 102) 15 = .ok (.bipush 12, 2) := by decide +kernel
theorem u102_15 {d : Nat} {ls : Lo} {st : List Va} {σ : Sg} {Q : Rs → Sg → Prop} : Wx d 102 15 ls st σ Q ↔ Wx d 102 17 ls (vi 12 :: st) σ Q := u_bipush d102_15 (by decide)
theorem d102_17 : decode (mB 102) 17 = .ok (.irem, 1) := by decide +kernel
theorem u102_17 {d : Nat} {ls : Lo} {st : List Va} {σ : Sg} {Q : Rs → Sg → Prop} {a b : Int} (h : (-2147483648 ≤ a ∧ a ≤ 2147483647) ∧ 0 < b ∧ b ≤ 2147483647) : Wx d 102 17 ls (vi b :: vi a :: st) σ Q ↔ Wx d 102 18 ls (vi (Int.tmod a b) :: st) σ Q := u_irem d102_17 h
theorem d102_18 : decode (mB 102) 18 = .ok (.aload_n 0, 1) := by decide +kernel
theorem u102_18 {d : Nat} {ls : Lo} {st : List Va} {σ : Sg} {Q : Rs → Sg → Prop} : Wx d 102 18 ls st σ Q ↔ Lr (lget ls 0) (fun z => Wx d 102 19 ls (.inr (.inl z) :: st) σ Q) := u_aload_n d102_18
theorem d102_19 : decode (mB 102) 19 = .ok (.invokevirtual 194, 3) := by decide +kernel
theorem u102_19 {d : Nat} {ls : Lo} {st : List Va} {σ : Sg} {Q : Rs → Sg → Prop} {g j : Nat} : Wx (d + 1) 102 19 ls (vr g j :: st) σ Q ↔ (isO g j 7 ∧ st.length ≤ 4 ∧ nlg [] = true) ∧ Wm d 78 [vr g j] σ (Kc (d + 1) 102 22 ls st Q) := u_inv0 d102_19 rfl rfl rfl
theorem d102_22 : decode (mB 102) 22 = .ok (.if_icmp .ne 39, 3) := by decide +kernel
theorem u102_22 {d : Nat} {ls : Lo} {st : List Va} {σ : Sg} {Q : Rs → Sg → Prop} {a b : Int} (h : -2147483648 ≤ a ∧ a ≤ 2147483647) (h2 : -2147483648 ≤ b ∧ b ≤ 2147483647) : Wx d 102 22 ls (vi b :: vi a :: st) σ Q ↔ if ¬ a = b then Wx d 102 61 ls st σ Q else Wx d 102 25 ls st σ Q := u_icne d102_22 (by decide) h h2
theorem d102_25 : decode (mB 102) 25 = .ok (.aload_n 0, 1) := by decide +kernel
theorem u102_25 {d : Nat} {ls : Lo} {st : List Va} {σ : Sg} {Q : Rs → Sg → Prop} : Wx d 102 25 ls st σ Q ↔ Lr (lget ls 0) (fun z => Wx d 102 26 ls (.inr (.inl z) :: st) σ Q) := u_aload_n d102_25
theorem d102_26 : decode (mB 102) 26 = .ok (.getfield 105, 3) := by decide +kernel
theorem u102_26 {d : Nat} {ls : Lo} {st : List Va} {σ : Sg} {Q : Rs → Sg → Prop} {g j : Nat} : Wx d 102 26 ls (vr g j :: st) σ Q ↔ isO g j 7 ∧ Wx d 102 29 ls (fvv σ g j 41 :: st) σ Q := u_get (w := (7, 41)) d102_26 rfl
theorem d102_29 : decode (mB 102) 29 = .ok (.iload_n 1, 1) := by decide +kernel
theorem u102_29 {d : Nat} {ls : Lo} {st : List Va} {σ : Sg} {Q : Rs → Sg → Prop} : Wx d 102 29 ls st σ Q ↔ Li (lget ls 1) (fun z => Wx d 102 30 ls (vi z :: st) σ Q) := u_iload_n d102_29
theorem d102_30 : decode (mB 102) 30 = .ok (.iaload, 1) := by decide +kernel
theorem u102_30 {d : Nat} {ls : Lo} {st : List Va} {σ : Sg} {Q : Rs → Sg → Prop} {z : Int} {g j : Nat} : Wx d 102 30 ls (vi z :: vr g j :: st) σ Q ↔ On (ial σ g j z) (fun x => Wx d 102 31 ls (vi x :: st) σ Q) := u_iald d102_30
theorem d102_31 : decode (mB 102) 31 = .ok (.aload_n 0, 1) := by decide +kernel
theorem u102_31 {d : Nat} {ls : Lo} {st : List Va} {σ : Sg} {Q : Rs → Sg → Prop} : Wx d 102 31 ls st σ Q ↔ Lr (lget ls 0) (fun z => Wx d 102 32 ls (.inr (.inl z) :: st) σ Q) := u_aload_n d102_31
theorem d102_32 : decode (mB 102) 32 = .ok (.getfield 102, 3) := by decide +kernel
theorem u102_32 {d : Nat} {ls : Lo} {st : List Va} {σ : Sg} {Q : Rs → Sg → Prop} {g j : Nat} : Wx d 102 32 ls (vr g j :: st) σ Q ↔ isO g j 7 ∧ Wx d 102 35 ls (fvv σ g j 40 :: st) σ Q := u_get (w := (7, 40)) d102_32 rfl
theorem d102_35 : decode (mB 102) 35 = .ok (.iload_n 1, 1) := by decide +kernel
theorem u102_35 {d : Nat} {ls : Lo} {st : List Va} {σ : Sg} {Q : Rs → Sg → Prop} : Wx d 102 35 ls st σ Q ↔ Li (lget ls 1) (fun z => Wx d 102 36 ls (vi z :: st) σ Q) := u_iload_n d102_35
theorem d102_36 : decode (mB 102) 36 = .ok (.iaload, 1) := by decide +kernel
theorem u102_36 {d : Nat} {ls : Lo} {st : List Va} {σ : Sg} {Q : Rs → Sg → Prop} {z : Int} {g j : Nat} : Wx d 102 36 ls (vi z :: vr g j :: st) σ Q ↔ On (ial σ g j z) (fun x => Wx d 102 37 ls (vi x :: st) σ Q) := u_iald d102_36
theorem d102_37 : decode (mB 102) 37 = .ok (.if_icmp .eq 24, 3) := by decide +kernel
theorem u102_37 {d : Nat} {ls : Lo} {st : List Va} {σ : Sg} {Q : Rs → Sg → Prop} {a b : Int} (h : -2147483648 ≤ a ∧ a ≤ 2147483647) (h2 : -2147483648 ≤ b ∧ b ≤ 2147483647) : Wx d 102 37 ls (vi b :: vi a :: st) σ Q ↔ if a = b then Wx d 102 61 ls st σ Q else Wx d 102 40 ls st σ Q := u_iceq d102_37 (by decide) h h2
theorem d102_40 : decode (mB 102) 40 = .ok (.aload_n 0, 1) := by decide +kernel
theorem u102_40 {d : Nat} {ls : Lo} {st : List Va} {σ : Sg} {Q : Rs → Sg → Prop} : Wx d 102 40 ls st σ Q ↔ Lr (lget ls 0) (fun z => Wx d 102 41 ls (.inr (.inl z) :: st) σ Q) := u_aload_n d102_40
theorem d102_41 : decode (mB 102) 41 = .ok (.getfield 105, 3) := by decide +kernel
theorem u102_41 {d : Nat} {ls : Lo} {st : List Va} {σ : Sg} {Q : Rs → Sg → Prop} {g j : Nat} : Wx d 102 41 ls (vr g j :: st) σ Q ↔ isO g j 7 ∧ Wx d 102 44 ls (fvv σ g j 41 :: st) σ Q := u_get (w := (7, 41)) d102_41 rfl
theorem d102_44 : decode (mB 102) 44 = .ok (.iload_n 1, 1) := by decide +kernel
theorem u102_44 {d : Nat} {ls : Lo} {st : List Va} {σ : Sg} {Q : Rs → Sg → Prop} : Wx d 102 44 ls st σ Q ↔ Li (lget ls 1) (fun z => Wx d 102 45 ls (vi z :: st) σ Q) := u_iload_n d102_44
theorem d102_45 : decode (mB 102) 45 = .ok (.iaload, 1) := by decide +kernel
theorem u102_45 {d : Nat} {ls : Lo} {st : List Va} {σ : Sg} {Q : Rs → Sg → Prop} {z : Int} {g j : Nat} : Wx d 102 45 ls (vi z :: vr g j :: st) σ Q ↔ On (ial σ g j z) (fun x => Wx d 102 46 ls (vi x :: st) σ Q) := u_iald d102_45
theorem d102_46 : decode (mB 102) 46 = .ok (.aload_n 0, 1) := by decide +kernel
theorem u102_46 {d : Nat} {ls : Lo} {st : List Va} {σ : Sg} {Q : Rs → Sg → Prop} : Wx d 102 46 ls st σ Q ↔ Lr (lget ls 0) (fun z => Wx d 102 47 ls (.inr (.inl z) :: st) σ Q) := u_aload_n d102_46
theorem d102_47 : decode (mB 102) 47 = .ok (.getfield 102, 3) := by decide +kernel
theorem u102_47 {d : Nat} {ls : Lo} {st : List Va} {σ : Sg} {Q : Rs → Sg → Prop} {g j : Nat} : Wx d 102 47 ls (vr g j :: st) σ Q ↔ isO g j 7 ∧ Wx d 102 50 ls (fvv σ g j 40 :: st) σ Q := u_get (w := (7, 40)) d102_47 rfl
theorem d102_50 : decode (mB 102) 50 = .ok (.iload_n 1, 1) := by decide +kernel
theorem u102_50 {d : Nat} {ls : Lo} {st : List Va} {σ : Sg} {Q : Rs → Sg → Prop} : Wx d 102 50 ls st σ Q ↔ Li (lget ls 1) (fun z => Wx d 102 51 ls (vi z :: st) σ Q) := u_iload_n d102_50
theorem d102_51 : decode (mB 102) 51 = .ok (.iaload, 1) := by decide +kernel
theorem u102_51 {d : Nat} {ls : Lo} {st : List Va} {σ : Sg} {Q : Rs → Sg → Prop} {z : Int} {g j : Nat} : Wx d 102 51 ls (vi z :: vr g j :: st) σ Q ↔ On (ial σ g j z) (fun x => Wx d 102 52 ls (vi x :: st) σ Q) := u_iald d102_51
theorem d102_52 : decode (mB 102) 52 = .ok (.iconst 1, 1) := by decide +kernel
theorem u102_52 {d : Nat} {ls : Lo} {st : List Va} {σ : Sg} {Q : Rs → Sg → Prop} : Wx d 102 52 ls st σ Q ↔ Wx d 102 53 ls (vi 1 :: st) σ Q := u_iconst d102_52
theorem d102_53 : decode (mB 102) 53 = .ok (.iadd, 1) := by decide +kernel
theorem u102_53 {d : Nat} {ls : Lo} {st : List Va} {σ : Sg} {Q : Rs → Sg → Prop} {a b : Int} : Wx d 102 53 ls (vi b :: vi a :: st) σ Q ↔ Wx d 102 54 ls (vi (a + b) :: st) σ Q := u_iadd d102_53
theorem d102_54 : decode (mB 102) 54 = .ok (.if_icmp .eq 7, 3) := by decide +kernel
theorem u102_54 {d : Nat} {ls : Lo} {st : List Va} {σ : Sg} {Q : Rs → Sg → Prop} {a b : Int} (h : -2147483648 ≤ a ∧ a ≤ 2147483647) (h2 : -2147483648 ≤ b ∧ b ≤ 2147483647) : Wx d 102 54 ls (vi b :: vi a :: st) σ Q ↔ if a = b then Wx d 102 61 ls st σ Q else Wx d 102 57 ls st σ Q := u_iceq d102_54 (by decide) h h2
theorem d102_57 : decode (mB 102) 57 = .ok (.iconst 1, 1) := by decide +kernel
theorem u102_57 {d : Nat} {ls : Lo} {st : List Va} {σ : Sg} {Q : Rs → Sg → Prop} : Wx d 102 57 ls st σ Q ↔ Wx d 102 58 ls (vi 1 :: st) σ Q := u_iconst d102_57
theorem d102_58 : decode (mB 102) 58 = .ok (.goto 4, 3) := by decide +kernel
theorem u102_58 {d : Nat} {ls : Lo} {st : List Va} {σ : Sg} {Q : Rs → Sg → Prop} : Wx d 102 58 ls st σ Q ↔ Wx d 102 62 ls st σ Q := u_goto d102_58 (by decide)
theorem d102_61 : decode (mB 102) 61 = .ok (.iconst 0, 1) := by decide +kernel
theorem u102_61 {d : Nat} {ls : Lo} {st : List Va} {σ : Sg} {Q : Rs → Sg → Prop} : Wx d 102 61 ls st σ Q ↔ Wx d 102 62 ls (vi 0 :: st) σ Q := u_iconst d102_61
theorem d102_62 : decode (mB 102) 62 = .ok (.ireturn, 1) := by decide +kernel
theorem u102_62 {d : Nat} {ls : Lo} {σ : Sg} {Q : Rs → Sg → Prop} {z : Int} (h : z = 0 ∨ z = 1) : Wx d 102 62 ls [vi z] σ Q ↔ Q (.inl (some (vi z))) σ := u_zret d102_62 rfl h
/-! 103: FiguredBassModel.breaksSeventh(II)Z -/
theorem d103_0 : decode (mB 103) 0 = .ok (.aload_n 0, 1) := by decide +kernel
theorem u103_0 {d : Nat} {ls : Lo} {st : List Va} {σ : Sg} {Q : Rs → Sg → Prop} : Wx d 103 0 ls st σ Q ↔ Lr (lget ls 0) (fun z => Wx d 103 1 ls (.inr (.inl z) :: st) σ Q) := u_aload_n d103_0
theorem d103_1 : decode (mB 103) 1 = .ok (.getfield 102, 3) := by decide +kernel
theorem u103_1 {d : Nat} {ls : Lo} {st : List Va} {σ : Sg} {Q : Rs → Sg → Prop} {g j : Nat} : Wx d 103 1 ls (vr g j :: st) σ Q ↔ isO g j 7 ∧ Wx d 103 4 ls (fvv σ g j 40 :: st) σ Q := u_get (w := (7, 40)) d103_1 rfl
theorem d103_4 : decode (mB 103) 4 = .ok (.iload_n 2, 1) := by decide +kernel
theorem u103_4 {d : Nat} {ls : Lo} {st : List Va} {σ : Sg} {Q : Rs → Sg → Prop} : Wx d 103 4 ls st σ Q ↔ Li (lget ls 2) (fun z => Wx d 103 5 ls (vi z :: st) σ Q) := u_iload_n d103_4
theorem d103_5 : decode (mB 103) 5 = .ok (.iaload, 1) := by decide +kernel
theorem u103_5 {d : Nat} {ls : Lo} {st : List Va} {σ : Sg} {Q : Rs → Sg → Prop} {z : Int} {g j : Nat} : Wx d 103 5 ls (vi z :: vr g j :: st) σ Q ↔ On (ial σ g j z) (fun x => Wx d 103 6 ls (vi x :: st) σ Q) := u_iald d103_5
theorem d103_6 : decode (mB 103) 6 = .ok (.aload_n 0, 1) := by decide +kernel
theorem u103_6 {d : Nat} {ls : Lo} {st : List Va} {σ : Sg} {Q : Rs → Sg → Prop} : Wx d 103 6 ls st σ Q ↔ Lr (lget ls 0) (fun z => Wx d 103 7 ls (.inr (.inl z) :: st) σ Q) := u_aload_n d103_6
theorem d103_7 : decode (mB 103) 7 = .ok (.getfield 105, 3) := by decide +kernel
theorem u103_7 {d : Nat} {ls : Lo} {st : List Va} {σ : Sg} {Q : Rs → Sg → Prop} {g j : Nat} : Wx d 103 7 ls (vr g j :: st) σ Q ↔ isO g j 7 ∧ Wx d 103 10 ls (fvv σ g j 41 :: st) σ Q := u_get (w := (7, 41)) d103_7 rfl
theorem d103_10 : decode (mB 103) 10 = .ok (.iload_n 2, 1) := by decide +kernel
theorem u103_10 {d : Nat} {ls : Lo} {st : List Va} {σ : Sg} {Q : Rs → Sg → Prop} : Wx d 103 10 ls st σ Q ↔ Li (lget ls 2) (fun z => Wx d 103 11 ls (vi z :: st) σ Q) := u_iload_n d103_10
theorem d103_11 : decode (mB 103) 11 = .ok (.iaload, 1) := by decide +kernel
theorem u103_11 {d : Nat} {ls : Lo} {st : List Va} {σ : Sg} {Q : Rs → Sg → Prop} {z : Int} {g j : Nat} : Wx d 103 11 ls (vi z :: vr g j :: st) σ Q ↔ On (ial σ g j z) (fun x => Wx d 103 12 ls (vi x :: st) σ Q) := u_iald d103_11
theorem d103_12 : decode (mB 103) 12 = .ok (.isub, 1) := by decide +kernel
theorem u103_12 {d : Nat} {ls : Lo} {st : List Va} {σ : Sg} {Q : Rs → Sg → Prop} {a b : Int} : Wx d 103 12 ls (vi b :: vi a :: st) σ Q ↔ Wx d 103 13 ls (vi (a - b) :: st) σ Q := u_isub d103_12
theorem d103_13 : decode (mB 103) 13 = .ok (.istore_n 3, 1) := by decide +kernel
theorem u103_13 {d : Nat} {ls : Lo} {st : List Va} {σ : Sg} {Q : Rs → Sg → Prop} {z : Int} : Wx d 103 13 ls (vi z :: st) σ Q ↔ Wx d 103 14 (lset ls 3 (vi z)) st σ Q := u_istore_n d103_13 (by decide)
theorem d103_14 : decode (mB 103) 14 = .ok (.aload_n 0, 1) := by decide +kernel
theorem u103_14 {d : Nat} {ls : Lo} {st : List Va} {σ : Sg} {Q : Rs → Sg → Prop} : Wx d 103 14 ls st σ Q ↔ Lr (lget ls 0) (fun z => Wx d 103 15 ls (.inr (.inl z) :: st) σ Q) := u_aload_n d103_14
theorem d103_15 : decode (mB 103) 15 = .ok (.getfield 102, 3) := by decide +kernel
theorem u103_15 {d : Nat} {ls : Lo} {st : List Va} {σ : Sg} {Q : Rs → Sg → Prop} {g j : Nat} : Wx d 103 15 ls (vr g j :: st) σ Q ↔ isO g j 7 ∧ Wx d 103 18 ls (fvv σ g j 40 :: st) σ Q := u_get (w := (7, 40)) d103_15 rfl
theorem d103_18 : decode (mB 103) 18 = .ok (.iload_n 2, 1) := by decide +kernel
theorem u103_18 {d : Nat} {ls : Lo} {st : List Va} {σ : Sg} {Q : Rs → Sg → Prop} : Wx d 103 18 ls st σ Q ↔ Li (lget ls 2) (fun z => Wx d 103 19 ls (vi z :: st) σ Q) := u_iload_n d103_18
theorem d103_19 : decode (mB 103) 19 = .ok (.iaload, 1) := by decide +kernel
theorem u103_19 {d : Nat} {ls : Lo} {st : List Va} {σ : Sg} {Q : Rs → Sg → Prop} {z : Int} {g j : Nat} : Wx d 103 19 ls (vi z :: vr g j :: st) σ Q ↔ On (ial σ g j z) (fun x => Wx d 103 20 ls (vi x :: st) σ Q) := u_iald d103_19
theorem d103_20 : decode (mB 103) 20 = .ok (.bipush 12, 2) := by decide +kernel
theorem u103_20 {d : Nat} {ls : Lo} {st : List Va} {σ : Sg} {Q : Rs → Sg → Prop} : Wx d 103 20 ls st σ Q ↔ Wx d 103 22 ls (vi 12 :: st) σ Q := u_bipush d103_20 (by decide)
theorem d103_22 : decode (mB 103) 22 = .ok (.irem, 1) := by decide +kernel
theorem u103_22 {d : Nat} {ls : Lo} {st : List Va} {σ : Sg} {Q : Rs → Sg → Prop} {a b : Int} (h : (-2147483648 ≤ a ∧ a ≤ 2147483647) ∧ 0 < b ∧ b ≤ 2147483647) : Wx d 103 22 ls (vi b :: vi a :: st) σ Q ↔ Wx d 103 23 ls (vi (Int.tmod a b) :: st) σ Q := u_irem d103_22 h
theorem d103_23 : decode (mB 103) 23 = .ok (.aload_n 0, 1) := by decide +kernel
theorem u103_23 {d : Nat} {ls : Lo} {st : List Va} {σ : Sg} {Q : Rs → Sg → Prop} : Wx d 103 23 ls st σ Q ↔ Lr (lget ls 0) (fun z => Wx d 103 24 ls (.inr (.inl z) :: st) σ Q) := u_aload_n d103_23
theorem d103_24 : decode (mB 103) 24 = .ok (.getfield 59, 3) := by decide +kernel
theorem u103_24 {d : Nat} {ls : Lo} {st : List Va} {σ : Sg} {Q : Rs → Sg → Prop} {g j : Nat} : Wx d 103 24 ls (vr g j :: st) σ Q ↔ isO g j 7 ∧ Wx d 103 27 ls (fvv σ g j 24 :: st) σ Q := u_get (w := (7, 24)) d103_24 rfl
theorem d103_27 : decode (mB 103) 27 = .ok (.iload_n 1, 1) := by decide +kernel
theorem u103_27 {d : Nat} {ls : Lo} {st : List Va} {σ : Sg} {Q : Rs → Sg → Prop} : Wx d 103 27 ls st σ Q ↔ Li (lget ls 1) (fun z => Wx d 103 28 ls (vi z :: st) σ Q) := u_iload_n d103_27
theorem d103_28 : decode (mB 103) 28 = .ok (.iaload, 1) := by decide +kernel
theorem u103_28 {d : Nat} {ls : Lo} {st : List Va} {σ : Sg} {Q : Rs → Sg → Prop} {z : Int} {g j : Nat} : Wx d 103 28 ls (vi z :: vr g j :: st) σ Q ↔ On (ial σ g j z) (fun x => Wx d 103 29 ls (vi x :: st) σ Q) := u_iald d103_28
theorem d103_29 : decode (mB 103) 29 = .ok (.if_icmp .ne 16, 3) := by decide +kernel
theorem u103_29 {d : Nat} {ls : Lo} {st : List Va} {σ : Sg} {Q : Rs → Sg → Prop} {a b : Int} (h : -2147483648 ≤ a ∧ a ≤ 2147483647) (h2 : -2147483648 ≤ b ∧ b ≤ 2147483647) : Wx d 103 29 ls (vi b :: vi a :: st) σ Q ↔ if ¬ a = b then Wx d 103 45 ls st σ Q else Wx d 103 32 ls st σ Q := u_icne d103_29 (by decide) h h2
theorem d103_32 : decode (mB 103) 32 = .ok (.iload_n 3, 1) := by decide +kernel
theorem u103_32 {d : Nat} {ls : Lo} {st : List Va} {σ : Sg} {Q : Rs → Sg → Prop} : Wx d 103 32 ls st σ Q ↔ Li (lget ls 3) (fun z => Wx d 103 33 ls (vi z :: st) σ Q) := u_iload_n d103_32
theorem d103_33 : decode (mB 103) 33 = .ok (.ifCond .lt 8, 3) := by decide +kernel
theorem u103_33 {d : Nat} {ls : Lo} {st : List Va} {σ : Sg} {Q : Rs → Sg → Prop} {a : Int} (h : -2147483648 ≤ a ∧ a ≤ 2147483647) : Wx d 103 33 ls (vi a :: st) σ Q ↔ if a < 0 then Wx d 103 41 ls st σ Q else Wx d 103 36 ls st σ Q := u_iflt d103_33 (by decide) h
theorem d103_36 : decode (mB 103) 36 = .ok (.iload_n 3, 1) := by decide +kernel
theorem u103_36 {d : Nat} {ls : Lo} {st : List Va} {σ : Sg} {Q : Rs → Sg → Prop} : Wx d 103 36 ls st σ Q ↔ Li (lget ls 3) (fun z => Wx d 103 37 ls (vi z :: st) σ Q) := u_iload_n d103_36
theorem d103_37 : decode (mB 103) 37 = .ok (.iconst 2, 1) := by decide +kernel
theorem u103_37 {d : Nat} {ls : Lo} {st : List Va} {σ : Sg} {Q : Rs → Sg → Prop} : Wx d 103 37 ls st σ Q ↔ Wx d 103 38 ls (vi 2 :: st) σ Q := u_iconst d103_37
theorem d103_38 : decode (mB 103) 38 = .ok (.if_icmp .le 7, 3) := by decide +kernel
theorem u103_38 {d : Nat} {ls : Lo} {st : List Va} {σ : Sg} {Q : Rs → Sg → Prop} {a b : Int} (h : -2147483648 ≤ a ∧ a ≤ 2147483647) (h2 : -2147483648 ≤ b ∧ b ≤ 2147483647) : Wx d 103 38 ls (vi b :: vi a :: st) σ Q ↔ if a ≤ b then Wx d 103 45 ls st σ Q else Wx d 103 41 ls st σ Q := u_icle d103_38 (by decide) h h2
theorem d103_41 : decode (mB 103) 41 = .ok (.iconst 1, 1) := by decide +kernel
theorem u103_41 {d : Nat} {ls : Lo} {st : List Va} {σ : Sg} {Q : Rs → Sg → Prop} : Wx d 103 41 ls st σ Q ↔ Wx d 103 42 ls (vi 1 :: st) σ Q := u_iconst d103_41
theorem d103_42 : decode (mB 103) 42 = .ok (.goto 4, 3) := by decide +kernel
theorem u103_42 {d : Nat} {ls : Lo} {st : List Va} {σ : Sg} {Q : Rs → Sg → Prop} : Wx d 103 42 ls st σ Q ↔ Wx d 103 46 ls st σ Q := u_goto d103_42 (by decide)
theorem d103_45 : decode (mB 103) 45 = .ok (.iconst 0, 1) := by decide +kernel
theorem u103_45 {d : Nat} {ls : Lo} {st : List Va} {σ : Sg} {Q : Rs → Sg → Prop} : Wx d 103 45 ls st σ Q ↔ Wx d 103 46 ls (vi 0 :: st) σ Q := u_iconst d103_45
theorem d103_46 : decode (mB 103) 46 = .ok (.ireturn, 1) := by decide +kernel
theorem u103_46 {d : Nat} {ls : Lo} {σ : Sg} {Q : Rs → Sg → Prop} {z : Int} (h : z = 0 ∨ z = 1) : Wx d 103 46 ls [vi z] σ Q ↔ Q (.inl (some (vi z))) σ := u_zret d103_46 rfl h
/-! 104: FiguredBassModel.breaksStep(II)Z -/
theorem d104_0 : decode (mB 104) 0 = .ok (.aload_n 0, 1) := by decide +kernel
theorem u104_0 {d : Nat} {ls : Lo} {st : List Va} {σ : Sg} {Q : Rs → Sg → Prop} : Wx d 104 0 ls st σ Q ↔ Lr (lget ls 0) (fun z => Wx d 104 1 ls (.inr (.inl z) :: st) σ Q) := u_aload_n d104_0
theorem d104_1 : decode (mB 104) 1 = .ok (.getfield 105, 3) := by decide +kernel
theorem u104_1 {d : Nat} {ls : Lo} {st : List Va} {σ : Sg} {Q : Rs → Sg → Prop} {g j : Nat} : Wx d 104 1 ls (vr g j :: st) σ Q ↔ isO g j 7 ∧ Wx d 104 4 ls (fvv σ g j 41 :: st) σ Q := u_get (w := (7, 41)) d104_1 rfl
theorem d104_4 : decode (mB 104) 4 = .ok (.iload_n 2, 1) := by decide +kernel
theorem u104_4 {d : Nat} {ls : Lo} {st : List Va} {σ : Sg} {Q : Rs → Sg → Prop} : Wx d 104 4 ls st σ Q ↔ Li (lget ls 2) (fun z => Wx d 104 5 ls (vi z :: st) σ Q) := u_iload_n d104_4
theorem d104_5 : decode (mB 104) 5 = .ok (.iaload, 1) := by decide +kernel
theorem u104_5 {d : Nat} {ls : Lo} {st : List Va} {σ : Sg} {Q : Rs → Sg → Prop} {z : Int} {g j : Nat} : Wx d 104 5 ls (vi z :: vr g j :: st) σ Q ↔ On (ial σ g j z) (fun x => Wx d 104 6 ls (vi x :: st) σ Q) := u_iald d104_5
theorem d104_6 : decode (mB 104) 6 = .ok (.aload_n 0, 1) := by decide +kernel
theorem u104_6 {d : Nat} {ls : Lo} {st : List Va} {σ : Sg} {Q : Rs → Sg → Prop} : Wx d 104 6 ls st σ Q ↔ Lr (lget ls 0) (fun z => Wx d 104 7 ls (.inr (.inl z) :: st) σ Q) := u_aload_n d104_6
theorem d104_7 : decode (mB 104) 7 = .ok (.getfield 102, 3) := by decide +kernel
theorem u104_7 {d : Nat} {ls : Lo} {st : List Va} {σ : Sg} {Q : Rs → Sg → Prop} {g j : Nat} : Wx d 104 7 ls (vr g j :: st) σ Q ↔ isO g j 7 ∧ Wx d 104 10 ls (fvv σ g j 40 :: st) σ Q := u_get (w := (7, 40)) d104_7 rfl
theorem d104_10 : decode (mB 104) 10 = .ok (.iload_n 2, 1) := by decide +kernel
theorem u104_10 {d : Nat} {ls : Lo} {st : List Va} {σ : Sg} {Q : Rs → Sg → Prop} : Wx d 104 10 ls st σ Q ↔ Li (lget ls 2) (fun z => Wx d 104 11 ls (vi z :: st) σ Q) := u_iload_n d104_10
theorem d104_11 : decode (mB 104) 11 = .ok (.iaload, 1) := by decide +kernel
theorem u104_11 {d : Nat} {ls : Lo} {st : List Va} {σ : Sg} {Q : Rs → Sg → Prop} {z : Int} {g j : Nat} : Wx d 104 11 ls (vi z :: vr g j :: st) σ Q ↔ On (ial σ g j z) (fun x => Wx d 104 12 ls (vi x :: st) σ Q) := u_iald d104_11
theorem d104_12 : decode (mB 104) 12 = .ok (.isub, 1) := by decide +kernel
theorem u104_12 {d : Nat} {ls : Lo} {st : List Va} {σ : Sg} {Q : Rs → Sg → Prop} {a b : Int} : Wx d 104 12 ls (vi b :: vi a :: st) σ Q ↔ Wx d 104 13 ls (vi (a - b) :: st) σ Q := u_isub d104_12
theorem d104_13 : decode (mB 104) 13 = .ok (.istore_n 3, 1) := by decide +kernel
theorem u104_13 {d : Nat} {ls : Lo} {st : List Va} {σ : Sg} {Q : Rs → Sg → Prop} {z : Int} : Wx d 104 13 ls (vi z :: st) σ Q ↔ Wx d 104 14 (lset ls 3 (vi z)) st σ Q := u_istore_n d104_13 (by decide)
theorem d104_14 : decode (mB 104) 14 = .ok (.aload_n 0, 1) := by decide +kernel
theorem u104_14 {d : Nat} {ls : Lo} {st : List Va} {σ : Sg} {Q : Rs → Sg → Prop} : Wx d 104 14 ls st σ Q ↔ Lr (lget ls 0) (fun z => Wx d 104 15 ls (.inr (.inl z) :: st) σ Q) := u_aload_n d104_14
theorem d104_15 : decode (mB 104) 15 = .ok (.getfield 56, 3) := by decide +kernel
theorem u104_15 {d : Nat} {ls : Lo} {st : List Va} {σ : Sg} {Q : Rs → Sg → Prop} {g j : Nat} : Wx d 104 15 ls (vr g j :: st) σ Q ↔ isO g j 7 ∧ Wx d 104 18 ls (fvv σ g j 23 :: st) σ Q := u_get (w := (7, 23)) d104_15 rfl
theorem d104_18 : decode (mB 104) 18 = .ok (.bipush 12, 2) := by decide +kernel
theorem u104_18 {d : Nat} {ls : Lo} {st : List Va} {σ : Sg} {Q : Rs → Sg → Prop} : Wx d 104 18 ls st σ Q ↔ Wx d 104 20 ls (vi 12 :: st) σ Q := u_bipush d104_18 (by decide)
theorem d104_20 : decode (mB 104) 20 = .ok (.iload_n 1, 1) := by decide +kernel
theorem u104_20 {d : Nat} {ls : Lo} {st : List Va} {σ : Sg} {Q : Rs → Sg → Prop} : Wx d 104 20 ls st σ Q ↔ Li (lget ls 1) (fun z => Wx d 104 21 ls (vi z :: st) σ Q) := u_iload_n d104_20
theorem d104_21 : decode (mB 104) 21 = .ok (.imul, 1) := by decide +kernel
theorem u104_21 {d : Nat} {ls : Lo} {st : List Va} {σ : Sg} {Q : Rs → Sg → Prop} {a b : Int} : Wx d 104 21 ls (vi b :: vi a :: st) σ Q ↔ Wx d 104 22 ls (vi (a * b) :: st) σ Q := u_imul d104_21
theorem d104_22 : decode (mB 104) 22 = .ok (.aload_n 0, 1) := by decide +kernel
theorem u104_22 {d : Nat} {ls : Lo} {st : List Va} {σ : Sg} {Q : Rs → Sg → Prop} : Wx d 104 22 ls st σ Q ↔ Lr (lget ls 0) (fun z => Wx d 104 23 ls (.inr (.inl z) :: st) σ Q) := u_aload_n d104_22
theorem d104_23 : decode (mB 104) 23 = .ok (.getfield 102, 3) := by decide +kernel
theorem u104_23 {d : Nat} {ls : Lo} {st : List Va} {σ : Sg} {Q : Rs → Sg → Prop} {g j : Nat} : Wx d 104 23 ls (vr g j :: st) σ Q ↔ isO g j 7 ∧ Wx d 104 26 ls (fvv σ g j 40 :: st) σ Q := u_get (w := (7, 40)) d104_23 rfl
theorem d104_26 : decode (mB 104) 26 = .ok (.iload_n 2, 1) := by decide +kernel
theorem u104_26 {d : Nat} {ls : Lo} {st : List Va} {σ : Sg} {Q : Rs → Sg → Prop} : Wx d 104 26 ls st σ Q ↔ Li (lget ls 2) (fun z => Wx d 104 27 ls (vi z :: st) σ Q) := u_iload_n d104_26
theorem d104_27 : decode (mB 104) 27 = .ok (.iaload, 1) := by decide +kernel
theorem u104_27 {d : Nat} {ls : Lo} {st : List Va} {σ : Sg} {Q : Rs → Sg → Prop} {z : Int} {g j : Nat} : Wx d 104 27 ls (vi z :: vr g j :: st) σ Q ↔ On (ial σ g j z) (fun x => Wx d 104 28 ls (vi x :: st) σ Q) := u_iald d104_27
theorem d104_28 : decode (mB 104) 28 = .ok (.bipush 12, 2) := by decide +kernel
theorem u104_28 {d : Nat} {ls : Lo} {st : List Va} {σ : Sg} {Q : Rs → Sg → Prop} : Wx d 104 28 ls st σ Q ↔ Wx d 104 30 ls (vi 12 :: st) σ Q := u_bipush d104_28 (by decide)
theorem d104_30 : decode (mB 104) 30 = .ok (.irem, 1) := by decide +kernel
theorem u104_30 {d : Nat} {ls : Lo} {st : List Va} {σ : Sg} {Q : Rs → Sg → Prop} {a b : Int} (h : (-2147483648 ≤ a ∧ a ≤ 2147483647) ∧ 0 < b ∧ b ≤ 2147483647) : Wx d 104 30 ls (vi b :: vi a :: st) σ Q ↔ Wx d 104 31 ls (vi (Int.tmod a b) :: st) σ Q := u_irem d104_30 h
theorem d104_31 : decode (mB 104) 31 = .ok (.iadd, 1) := by decide +kernel
theorem u104_31 {d : Nat} {ls : Lo} {st : List Va} {σ : Sg} {Q : Rs → Sg → Prop} {a b : Int} : Wx d 104 31 ls (vi b :: vi a :: st) σ Q ↔ Wx d 104 32 ls (vi (a + b) :: st) σ Q := u_iadd d104_31
theorem d104_32 : decode (mB 104) 32 = .ok (.iaload, 1) := by decide +kernel
theorem u104_32 {d : Nat} {ls : Lo} {st : List Va} {σ : Sg} {Q : Rs → Sg → Prop} {z : Int} {g j : Nat} : Wx d 104 32 ls (vi z :: vr g j :: st) σ Q ↔ On (ial σ g j z) (fun x => Wx d 104 33 ls (vi x :: st) σ Q) := u_iald d104_32
theorem d104_33 : decode (mB 104) 33 = .ok (.istore 4, 2) := by decide +kernel
theorem u104_33 {d : Nat} {ls : Lo} {st : List Va} {σ : Sg} {Q : Rs → Sg → Prop} {z : Int} : Wx d 104 33 ls (vi z :: st) σ Q ↔ Wx d 104 35 (lset ls 4 (vi z)) st σ Q := u_istore d104_33 (by decide)
theorem d104_35 : decode (mB 104) 35 = .ok (.aload_n 0, 1) := by decide +kernel
theorem u104_35 {d : Nat} {ls : Lo} {st : List Va} {σ : Sg} {Q : Rs → Sg → Prop} : Wx d 104 35 ls st σ Q ↔ Lr (lget ls 0) (fun z => Wx d 104 36 ls (.inr (.inl z) :: st) σ Q) := u_aload_n d104_35
theorem d104_36 : decode (mB 104) 36 = .ok (.getfield 56, 3) := by decide +kernel
theorem u104_36 {d : Nat} {ls : Lo} {st : List Va} {σ : Sg} {Q : Rs → Sg → Prop} {g j : Nat} : Wx d 104 36 ls (vr g j :: st) σ Q ↔ isO g j 7 ∧ Wx d 104 39 ls (fvv σ g j 23 :: st) σ Q := u_get (w := (7, 23)) d104_36 rfl
theorem d104_39 : decode (mB 104) 39 = .ok (.bipush 12, 2) := by decide +kernel
theorem u104_39 {d : Nat} {ls : Lo} {st : List Va} {σ : Sg} {Q : Rs → Sg → Prop} : Wx d 104 39 ls st σ Q ↔ Wx d 104 41 ls (vi 12 :: st) σ Q := u_bipush d104_39 (by decide)
theorem d104_41 : decode (mB 104) 41 = .ok (.iload_n 1, 1) := by decide +kernel
theorem u104_41 {d : Nat} {ls : Lo} {st : List Va} {σ : Sg} {Q : Rs → Sg → Prop} : Wx d 104 41 ls st σ Q ↔ Li (lget ls 1) (fun z => Wx d 104 42 ls (vi z :: st) σ Q) := u_iload_n d104_41
theorem d104_42 : decode (mB 104) 42 = .ok (.imul, 1) := by decide +kernel
theorem u104_42 {d : Nat} {ls : Lo} {st : List Va} {σ : Sg} {Q : Rs → Sg → Prop} {a b : Int} : Wx d 104 42 ls (vi b :: vi a :: st) σ Q ↔ Wx d 104 43 ls (vi (a * b) :: st) σ Q := u_imul d104_42
theorem d104_43 : decode (mB 104) 43 = .ok (.bipush 12, 2) := by decide +kernel
theorem u104_43 {d : Nat} {ls : Lo} {st : List Va} {σ : Sg} {Q : Rs → Sg → Prop} : Wx d 104 43 ls st σ Q ↔ Wx d 104 45 ls (vi 12 :: st) σ Q := u_bipush d104_43 (by decide)
theorem d104_45 : decode (mB 104) 45 = .ok (.iadd, 1) := by decide +kernel
theorem u104_45 {d : Nat} {ls : Lo} {st : List Va} {σ : Sg} {Q : Rs → Sg → Prop} {a b : Int} : Wx d 104 45 ls (vi b :: vi a :: st) σ Q ↔ Wx d 104 46 ls (vi (a + b) :: st) σ Q := u_iadd d104_45
theorem d104_46 : decode (mB 104) 46 = .ok (.aload_n 0, 1) := by decide +kernel
theorem u104_46 {d : Nat} {ls : Lo} {st : List Va} {σ : Sg} {Q : Rs → Sg → Prop} : Wx d 104 46 ls st σ Q ↔ Lr (lget ls 0) (fun z => Wx d 104 47 ls (.inr (.inl z) :: st) σ Q) := u_aload_n d104_46
theorem d104_47 : decode (mB 104) 47 = .ok (.getfield 105, 3) := by decide +kernel
theorem u104_47 {d : Nat} {ls : Lo} {st : List Va} {σ : Sg} {Q : Rs → Sg → Prop} {g j : Nat} : Wx d 104 47 ls (vr g j :: st) σ Q ↔ isO g j 7 ∧ Wx d 104 50 ls (fvv σ g j 41 :: st) σ Q := u_get (w := (7, 41)) d104_47 rfl
theorem d104_50 : decode (mB 104) 50 = .ok (.iload_n 2, 1) := by decide +kernel
theorem u104_50 {d : Nat} {ls : Lo} {st : List Va} {σ : Sg} {Q : Rs → Sg → Prop} : Wx d 104 50 ls st σ Q ↔ Li (lget ls 2) (fun z => Wx d 104 51 ls (vi z :: st) σ Q) := u_iload_n d104_50
theorem d104_51 : decode (mB 104) 51 = .ok (.iaload, 1) := by decide +kernel
theorem u104_51 {d : Nat} {ls : Lo} {st : List Va} {σ : Sg} {Q : Rs → Sg → Prop} {z : Int} {g j : Nat} : Wx d 104 51 ls (vi z :: vr g j :: st) σ Q ↔ On (ial σ g j z) (fun x => Wx d 104 52 ls (vi x :: st) σ Q) := u_iald d104_51
theorem d104_52 : decode (mB 104) 52 = .ok (.bipush 12, 2) := by decide +kernel
theorem u104_52 {d : Nat} {ls : Lo} {st : List Va} {σ : Sg} {Q : Rs → Sg → Prop} : Wx d 104 52 ls st σ Q ↔ Wx d 104 54 ls (vi 12 :: st) σ Q := u_bipush d104_52 (by decide)
theorem d104_54 : decode (mB 104) 54 = .ok (.irem, 1) := by decide +kernel
theorem u104_54 {d : Nat} {ls : Lo} {st : List Va} {σ : Sg} {Q : Rs → Sg → Prop} {a b : Int} (h : (-2147483648 ≤ a ∧ a ≤ 2147483647) ∧ 0 < b ∧ b ≤ 2147483647) : Wx d 104 54 ls (vi b :: vi a :: st) σ Q ↔ Wx d 104 55 ls (vi (Int.tmod a b) :: st) σ Q := u_irem d104_54 h
theorem d104_55 : decode (mB 104) 55 = .ok (.iadd, 1) := by decide +kernel
theorem u104_55 {d : Nat} {ls : Lo} {st : List Va} {σ : Sg} {Q : Rs → Sg → Prop} {a b : Int} : Wx d 104 55 ls (vi b :: vi a :: st) σ Q ↔ Wx d 104 56 ls (vi (a + b) :: st) σ Q := u_iadd d104_55
theorem d104_56 : decode (mB 104) 56 = .ok (.iaload, 1) := by decide +kernel
theorem u104_56 {d : Nat} {ls : Lo} {st : List Va} {σ : Sg} {Q : Rs → Sg → Prop} {z : Int} {g j : Nat} : Wx d 104 56 ls (vi z :: vr g j :: st) σ Q ↔ On (ial σ g j z) (fun x => Wx d 104 57 ls (vi x :: st) σ Q) := u_iald d104_56
theorem d104_57 : decode (mB 104) 57 = .ok (.istore 5, 2) := by decide +kernel
theorem u104_57 {d : Nat} {ls : Lo} {st : List Va} {σ : Sg} {Q : Rs → Sg → Prop} {z : Int} : Wx d 104 57 ls (vi z :: st) σ Q ↔ Wx d 104 59 (lset ls 5 (vi z)) st σ Q := u_istore d104_57 (by decide)
theorem d104_59 : decode (mB 104) 59 = .ok (.aload_n 0, 1) := by decide +kernel
theorem u104_59 {d : Nat} {ls : Lo} {st : List Va} {σ : Sg} {Q : Rs → Sg → Prop} : Wx d 104 59 ls st σ Q ↔ Lr (lget ls 0) (fun z => Wx d 104 60 ls (.inr (.inl z) :: st) σ Q) := u_aload_n d104_59
theorem d104_60 : decode (mB 104) 60 = .ok (.iload 4, 2) := by decide +kernel
theorem u104_60 {d : Nat} {ls : Lo} {st : List Va} {σ : Sg} {Q : Rs → Sg → Prop} : Wx d 104 60 ls st σ Q ↔ Li (lget ls 4) (fun z => Wx d 104 62 ls (vi z :: st) σ Q) := u_iload d104_60
theorem d104_62 : decode (mB 104) 62 = .ok (.iload 5, 2) := by decide +kernel
theorem u104_62 {d : Nat} {ls : Lo} {st : List Va} {σ : Sg} {Q : Rs → Sg → Prop} : Wx d 104 62 ls st σ Q ↔ Li (lget ls 5) (fun z => Wx d 104 64 ls (vi z :: st) σ Q) := u_iload d104_62
theorem d104_64 : decode (mB 104) 64 = .ok (.isub, 1) := by decide +kernel
theorem u104_64 {d : Nat} {ls : Lo} {st : List Va} {σ : Sg} {Q : Rs → Sg → Prop} {a b : Int} : Wx d 104 64 ls (vi b :: vi a :: st) σ Q ↔ Wx d 104 65 ls (vi (a - b) :: st) σ Q := u_isub d104_64
theorem d104_65 : decode (mB 104) 65 = .ok (.bipush 7, 2) := by decide +kernel
theorem u104_65 {d : Nat} {ls : Lo} {st : List Va} {σ : Sg} {Q : Rs → Sg → Prop} : Wx d 104 65 ls st σ Q ↔ Wx d 104 67 ls (vi 7 :: st) σ Q := u_bipush d104_65 (by decide)
theorem d104_67 : decode (mB 104) 67 = .ok (.invokevirtual 114, 3) := by decide +kernel
theorem u104_67 {d : Nat} {ls : Lo} {st : List Va} {σ : Sg} {Q : Rs → Sg → Prop} {g j : Nat} {a1 a2 : Va} : Wx (d + 1) 104 67 ls (a2 :: a1 :: vr g j :: st) σ Q ↔ (isO g j 7 ∧ st.length ≤ 4 ∧ nlg [a2, a1] = true) ∧ Wm d 75 [vr g j, a1, a2] σ (Kc (d + 1) 104 70 ls st Q) := u_inv2 d104_67 rfl rfl rfl
theorem d104_70 : decode (mB 104) 70 = .ok (.istore 6, 2) := by decide +kernel
theorem u104_70 {d : Nat} {ls : Lo} {st : List Va} {σ : Sg} {Q : Rs → Sg → Prop} {z : Int} : Wx d 104 70 ls (vi z :: st) σ Q ↔ Wx d 104 72 (lset ls 6 (vi z)) st σ Q := u_istore d104_70 (by decide)
theorem d104_72 : decode (mB 104) 72 = .ok (.iload_n 3, 1) := by decide +kernel
theorem u104_72 {d : Nat} {ls : Lo} {st : List Va} {σ : Sg} {Q : Rs → Sg → Prop} : Wx d 104 72 ls st σ Q ↔ Li (lget ls 3) (fun z => Wx d 104 73 ls (vi z :: st) σ Q) := u_iload_n d104_72
theorem d104_73 : decode (mB 104) 73 = .ok (.iconst 3, 1) := by decide +kernel
theorem u104_73 {d : Nat} {ls : Lo} {st : List Va} {σ : Sg} {Q : Rs → Sg → Prop} : Wx d 104 73 ls st σ Q ↔ Wx d 104 74 ls (vi 3 :: st) σ Q := u_iconst d104_73
theorem d104_74 : decode (mB 104) 74 = .ok (.if_icmp .eq 9, 3) := by decide +kernel
theorem u104_74 {d : Nat} {ls : Lo} {st : List Va} {σ : Sg} {Q : Rs → Sg → Prop} {a b : Int} (h : -2147483648 ≤ a ∧ a ≤ 2147483647) (h2 : -2147483648 ≤ b ∧ b ≤ 2147483647) : Wx d 104 74 ls (vi b :: vi a :: st) σ Q ↔ if a = b then Wx d 104 83 ls st σ Q else Wx d 104 77 ls st σ Q := u_iceq d104_74 (by decide) h h2
theorem d104_77 : decode (mB 104) 77 = .ok (.iload_n 3, 1) := by decide +kernel
theorem u104_77 {d : Nat} {ls : Lo} {st : List Va} {σ : Sg} {Q : Rs → Sg → Prop} : Wx d 104 77 ls st σ Q ↔ Li (lget ls 3) (fun z => Wx d 104 78 ls (vi z :: st) σ Q) := u_iload_n d104_77
theorem d104_78 : decode (mB 104) 78 = .ok (.bipush (-3), 2) := by decide +kernel
theorem u104_78 {d : Nat} {ls : Lo} {st : List Va} {σ : Sg} {Q : Rs → Sg → Prop} : Wx d 104 78 ls st σ Q ↔ Wx d 104 80 ls (vi (-3) :: st) σ Q := u_bipush d104_78 (by decide)
theorem d104_80 : decode (mB 104) 80 = .ok (.if_icmp .ne 30, 3) := by decide +kernel
theorem u104_80 {d : Nat} {ls : Lo} {st : List Va} {σ : Sg} {Q : Rs → Sg → Prop} {a b : Int} (h : -2147483648 ≤ a ∧ a ≤ 2147483647) (h2 : -2147483648 ≤ b ∧ b ≤ 2147483647) : Wx d 104 80 ls (vi b :: vi a :: st) σ Q ↔ if ¬ a = b then Wx d 104 110 ls st σ Q else Wx d 104 83 ls st σ Q := u_icne d104_80 (by decide) h h2
theorem d104_83 : decode (mB 104) 83 = .ok (.iload 4, 2) := by decide +kernel
theorem u104_83 {d : Nat} {ls : Lo} {st : List Va} {σ : Sg} {Q : Rs → Sg → Prop} : Wx d 104 83 ls st σ Q ↔ Li (lget ls 4) (fun z => Wx d 104 85 ls (vi z :: st) σ Q) := u_iload d104_83
theorem d104_85 : decode (mB 104) 85 = .ok (.ifCond .lt 25, 3) := by decide +kernel
theorem u104_85 {d : Nat} {ls : Lo} {st : List Va} {σ : Sg} {Q : Rs → Sg → Prop} {a : Int} (h : -2147483648 ≤ a ∧ a ≤ 2147483647) : Wx d 104 85 ls (vi a :: st) σ Q ↔ if a < 0 then Wx d 104 110 ls st σ Q else Wx d 104 88 ls st σ Q := u_iflt d104_85 (by decide) h
theorem d104_88 : decode (mB 104) 88 = .ok (.iload 5, 2) := by decide +kernel
theorem u104_88 {d : Nat} {ls : Lo} {st : List Va} {σ : Sg} {Q : Rs → Sg → Prop} : Wx d 104 88 ls st σ Q ↔ Li (lget ls 5) (fun z => Wx d 104 90 ls (vi z :: st) σ Q) := u_iload d104_88
theorem d104_90 : decode (mB 104) 90 = .ok (.ifCond .lt 20, 3) := by decide +kernel
theorem u104_90 {d : Nat} {ls : Lo} {st : List Va} {σ : Sg} {Q : Rs → Sg → Prop} {a : Int} (h : -2147483648 ≤ a ∧ a ≤ 2147483647) : Wx d 104 90 ls (vi a :: st) σ Q ↔ if a < 0 then Wx d 104 110 ls st σ Q else Wx d 104 93 ls st σ Q := u_iflt d104_90 (by decide) h
theorem d104_93 : decode (mB 104) 93 = .ok (.iload 6, 2) := by decide +kernel
theorem u104_93 {d : Nat} {ls : Lo} {st : List Va} {σ : Sg} {Q : Rs → Sg → Prop} : Wx d 104 93 ls st σ Q ↔ Li (lget ls 6) (fun z => Wx d 104 95 ls (vi z :: st) σ Q) := u_iload d104_93
theorem d104_95 : decode (mB 104) 95 = .ok (.iconst 1, 1) := by decide +kernel
theorem u104_95 {d : Nat} {ls : Lo} {st : List Va} {σ : Sg} {Q : Rs → Sg → Prop} : Wx d 104 95 ls st σ Q ↔ Wx d 104 96 ls (vi 1 :: st) σ Q := u_iconst d104_95
theorem d104_96 : decode (mB 104) 96 = .ok (.if_icmp .eq 10, 3) := by decide +kernel
theorem u104_96 {d : Nat} {ls : Lo} {st : List Va} {σ : Sg} {Q : Rs → Sg → Prop} {a b : Int} (h : -2147483648 ≤ a ∧ a ≤ 2147483647) (h2 : -2147483648 ≤ b ∧ b ≤ 2147483647) : Wx d 104 96 ls (vi b :: vi a :: st) σ Q ↔ if a = b then Wx d 104 106 ls st σ Q else Wx d 104 99 ls st σ Q := u_iceq d104_96 (by decide) h h2
theorem d104_99 : decode (mB 104) 99 = .ok (.iload 6, 2) := by decide +kernel
theorem u104_99 {d : Nat} {ls : Lo} {st : List Va} {σ : Sg} {Q : Rs → Sg → Prop} : Wx d 104 99 ls st σ Q ↔ Li (lget ls 6) (fun z => Wx d 104 101 ls (vi z :: st) σ Q) := u_iload d104_99
theorem d104_101 : decode (mB 104) 101 = .ok (.bipush 6, 2) := by decide +kernel
theorem u104_101 {d : Nat} {ls : Lo} {st : List Va} {σ : Sg} {Q : Rs → Sg → Prop} : Wx d 104 101 ls st σ Q ↔ Wx d 104 103 ls (vi 6 :: st) σ Q := u_bipush d104_101 (by decide)
theorem d104_103 : decode (mB 104) 103 = .ok (.if_icmp .ne 7, 3) := by decide +kernel
theorem u104_103 {d : Nat} {ls : Lo} {st : List Va} {σ : Sg} {Q : Rs → Sg → Prop} {a b : Int} (h : -2147483648 ≤ a ∧ a ≤ 2147483647) (h2 : -2147483648 ≤ b ∧ b ≤ 2147483647) : Wx d 104 103 ls (vi b :: vi a :: st) σ Q ↔ if ¬ a = b then Wx d 104 110 ls st σ Q else Wx d 104 106 ls st σ Q := u_icne d104_103 (by decide) h h2
theorem d104_106 : decode (mB 104) 106 = .ok (.iconst 1, 1) := by decide +kernel
theorem u104_106 {d : Nat} {ls : Lo} {st : List Va} {σ : Sg} {Q : Rs → Sg → Prop} : Wx d 104 106 ls st σ Q ↔ Wx d 104 107 ls (vi 1 :: st) σ Q := u_iconst d104_106
theorem d104_107 : decode (mB 104) 107 = .ok (.goto 4, 3) := by decide +kernel
theorem u104_107 {d : Nat} {ls : Lo} {st : List Va} {σ : Sg} {Q : Rs → Sg → Prop} : Wx d 104 107 ls st σ Q ↔ Wx d 104 111 ls st σ Q := u_goto d104_107 (by decide)
theorem d104_110 : decode (mB 104) 110 = .ok (.iconst 0, 1) := by decide +kernel
theorem u104_110 {d : Nat} {ls : Lo} {st : List Va} {σ : Sg} {Q : Rs → Sg → Prop} : Wx d 104 110 ls st σ Q ↔ Wx d 104 111 ls (vi 0 :: st) σ Q := u_iconst d104_110
theorem d104_111 : decode (mB 104) 111 = .ok (.ireturn, 1) := by decide +kernel
theorem u104_111 {d : Nat} {ls : Lo} {σ : Sg} {Q : Rs → Sg → Prop} {z : Int} (h : z = 0 ∨ z = 1) : Wx d 104 111 ls [vi z] σ Q ↔ Q (.inl (some (vi z))) σ := u_zret d104_111 rfl h
/-! 105: FiguredBassModel.load(II)V -/
theorem d105_0 : decode (mB 105) 0 = .ok (.aload_n 0, 1) := by decide +kernel
theorem u105_0 {d : Nat} {ls : Lo} {st : List Va} {σ : Sg} {Q : Rs → Sg → Prop} : Wx d 105 0 ls st σ Q ↔ Lr (lget ls 0) (fun z => Wx d 105 1 ls (.inr (.inl z) :: st) σ Q) := u_aload_n d105_0
theorem d105_1 : decode (mB 105) 1 = .ok (.getfield 102, 3) := by decide +kernel
theorem u105_1 {d : Nat} {ls : Lo} {st : List Va} {σ : Sg} {Q : Rs → Sg → Prop} {g j : Nat} : Wx d 105 1 ls (vr g j :: st) σ Q ↔ isO g j 7 ∧ Wx d 105 4 ls (fvv σ g j 40 :: st) σ Q := u_get (w := (7, 40)) d105_1 rfl
theorem d105_4 : decode (mB 105) 4 = .ok (.iconst 0, 1) := by decide +kernel
theorem u105_4 {d : Nat} {ls : Lo} {st : List Va} {σ : Sg} {Q : Rs → Sg → Prop} : Wx d 105 4 ls st σ Q ↔ Wx d 105 5 ls (vi 0 :: st) σ Q := u_iconst d105_4
theorem d105_5 : decode (mB 105) 5 = .ok (.aload_n 0, 1) := by decide +kernel
theorem u105_5 {d : Nat} {ls : Lo} {st : List Va} {σ : Sg} {Q : Rs → Sg → Prop} : Wx d 105 5 ls st σ Q ↔ Lr (lget ls 0) (fun z => Wx d 105 6 ls (.inr (.inl z) :: st) σ Q) := u_aload_n d105_5
theorem d105_6 : decode (mB 105) 6 = .ok (.getfield 68, 3) := by decide +kernel
theorem u105_6 {d : Nat} {ls : Lo} {st : List Va} {σ : Sg} {Q : Rs → Sg → Prop} {g j : Nat} : Wx d 105 6 ls (vr g j :: st) σ Q ↔ isO g j 7 ∧ Wx d 105 9 ls (fvv σ g j 27 :: st) σ Q := u_get (w := (7, 27)) d105_6 rfl
theorem d105_9 : decode (mB 105) 9 = .ok (.iload_n 2, 1) := by decide +kernel
theorem u105_9 {d : Nat} {ls : Lo} {st : List Va} {σ : Sg} {Q : Rs → Sg → Prop} : Wx d 105 9 ls st σ Q ↔ Li (lget ls 2) (fun z => Wx d 105 10 ls (vi z :: st) σ Q) := u_iload_n d105_9
theorem d105_10 : decode (mB 105) 10 = .ok (.iaload, 1) := by decide +kernel
theorem u105_10 {d : Nat} {ls : Lo} {st : List Va} {σ : Sg} {Q : Rs → Sg → Prop} {z : Int} {g j : Nat} : Wx d 105 10 ls (vi z :: vr g j :: st) σ Q ↔ On (ial σ g j z) (fun x => Wx d 105 11 ls (vi x :: st) σ Q) := u_iald d105_10
theorem d105_11 : decode (mB 105) 11 = .ok (.iastore, 1) := by decide +kernel
theorem u105_11 {d : Nat} {ls : Lo} {st : List Va} {σ : Sg} {Q : Rs → Sg → Prop} {x z : Int} {g j : Nat} : Wx d 105 11 ls (vi x :: vi z :: vr g j :: st) σ Q ↔ isA g j 0 z ∧ Wx d 105 12 ls st (up σ g j z.toNat x) Q := u_iast d105_11
theorem d105_12 : decode (mB 105) 12 = .ok (.aload_n 0, 1) := by decide +kernel
theorem u105_12 {d : Nat} {ls : Lo} {st : List Va} {σ : Sg} {Q : Rs → Sg → Prop} : Wx d 105 12 ls st σ Q ↔ Lr (lget ls 0) (fun z => Wx d 105 13 ls (.inr (.inl z) :: st) σ Q) := u_aload_n d105_12
theorem d105_13 : decode (mB 105) 13 = .ok (.getfield 102, 3) := by decide +kernel
theorem u105_13 {d : Nat} {ls : Lo} {st : List Va} {σ : Sg} {Q : Rs → Sg → Prop} {g j : Nat} : Wx d 105 13 ls (vr g j :: st) σ Q ↔ isO g j 7 ∧ Wx d 105 16 ls (fvv σ g j 40 :: st) σ Q := u_get (w := (7, 40)) d105_13 rfl
theorem d105_16 : decode (mB 105) 16 = .ok (.iconst 1, 1) := by decide +kernel
theorem u105_16 {d : Nat} {ls : Lo} {st : List Va} {σ : Sg} {Q : Rs → Sg → Prop} : Wx d 105 16 ls st σ Q ↔ Wx d 105 17 ls (vi 1 :: st) σ Q := u_iconst d105_16
theorem d105_17 : decode (mB 105) 17 = .ok (.aload_n 0, 1) := by decide +kernel
theorem u105_17 {d : Nat} {ls : Lo} {st : List Va} {σ : Sg} {Q : Rs → Sg → Prop} : Wx d 105 17 ls st σ Q ↔ Lr (lget ls 0) (fun z => Wx d 105 18 ls (.inr (.inl z) :: st) σ Q) := u_aload_n d105_17
theorem d105_18 : decode (mB 105) 18 = .ok (.getfield 71, 3) := by decide +kernel
theorem u105_18 {d : Nat} {ls : Lo} {st : List Va} {σ : Sg} {Q : Rs → Sg → Prop} {g j : Nat} : Wx d 105 18 ls (vr g j :: st) σ Q ↔ isO g j 7 ∧ Wx d 105 21 ls (fvv σ g j 28 :: st) σ Q := u_get (w := (7, 28)) d105_18 rfl
theorem d105_21 : decode (mB 105) 21 = .ok (.iload_n 2, 1) := by decide +kernel
theorem u105_21 {d : Nat} {ls : Lo} {st : List Va} {σ : Sg} {Q : Rs → Sg → Prop} : Wx d 105 21 ls st σ Q ↔ Li (lget ls 2) (fun z => Wx d 105 22 ls (vi z :: st) σ Q) := u_iload_n d105_21
theorem d105_22 : decode (mB 105) 22 = .ok (.iaload, 1) := by decide +kernel
theorem u105_22 {d : Nat} {ls : Lo} {st : List Va} {σ : Sg} {Q : Rs → Sg → Prop} {z : Int} {g j : Nat} : Wx d 105 22 ls (vi z :: vr g j :: st) σ Q ↔ On (ial σ g j z) (fun x => Wx d 105 23 ls (vi x :: st) σ Q) := u_iald d105_22
theorem d105_23 : decode (mB 105) 23 = .ok (.iastore, 1) := by decide +kernel
theorem u105_23 {d : Nat} {ls : Lo} {st : List Va} {σ : Sg} {Q : Rs → Sg → Prop} {x z : Int} {g j : Nat} : Wx d 105 23 ls (vi x :: vi z :: vr g j :: st) σ Q ↔ isA g j 0 z ∧ Wx d 105 24 ls st (up σ g j z.toNat x) Q := u_iast d105_23
theorem d105_24 : decode (mB 105) 24 = .ok (.aload_n 0, 1) := by decide +kernel
theorem u105_24 {d : Nat} {ls : Lo} {st : List Va} {σ : Sg} {Q : Rs → Sg → Prop} : Wx d 105 24 ls st σ Q ↔ Lr (lget ls 0) (fun z => Wx d 105 25 ls (.inr (.inl z) :: st) σ Q) := u_aload_n d105_24
theorem d105_25 : decode (mB 105) 25 = .ok (.getfield 102, 3) := by decide +kernel
theorem u105_25 {d : Nat} {ls : Lo} {st : List Va} {σ : Sg} {Q : Rs → Sg → Prop} {g j : Nat} : Wx d 105 25 ls (vr g j :: st) σ Q ↔ isO g j 7 ∧ Wx d 105 28 ls (fvv σ g j 40 :: st) σ Q := u_get (w := (7, 40)) d105_25 rfl
theorem d105_28 : decode (mB 105) 28 = .ok (.iconst 2, 1) := by decide +kernel
theorem u105_28 {d : Nat} {ls : Lo} {st : List Va} {σ : Sg} {Q : Rs → Sg → Prop} : Wx d 105 28 ls st σ Q ↔ Wx d 105 29 ls (vi 2 :: st) σ Q := u_iconst d105_28
theorem d105_29 : decode (mB 105) 29 = .ok (.aload_n 0, 1) := by decide +kernel
theorem u105_29 {d : Nat} {ls : Lo} {st : List Va} {σ : Sg} {Q : Rs → Sg → Prop} : Wx d 105 29 ls st σ Q ↔ Lr (lget ls 0) (fun z => Wx d 105 30 ls (.inr (.inl z) :: st) σ Q) := u_aload_n d105_29
theorem d105_30 : decode (mB 105) 30 = .ok (.getfield 74, 3) := by decide +kernel
theorem u105_30 {d : Nat} {ls : Lo} {st : List Va} {σ : Sg} {Q : Rs → Sg → Prop} {g j : Nat} : Wx d 105 30 ls (vr g j :: st) σ Q ↔ isO g j 7 ∧ Wx d 105 33 ls (fvv σ g j 29 :: st) σ Q := u_get (w := (7, 29)) d105_30 rfl
theorem d105_33 : decode (mB 105) 33 = .ok (.iload_n 2, 1) := by decide +kernel
theorem u105_33 {d : Nat} {ls : Lo} {st : List Va} {σ : Sg} {Q : Rs → Sg → Prop} : Wx d 105 33 ls st σ Q ↔ Li (lget ls 2) (fun z => Wx d 105 34 ls (vi z :: st) σ Q) := u_iload_n d105_33
theorem d105_34 : decode (mB 105) 34 = .ok (.iaload, 1) := by decide +kernel
theorem u105_34 {d : Nat} {ls : Lo} {st : List Va} {σ : Sg} {Q : Rs → Sg → Prop} {z : Int} {g j : Nat} : Wx d 105 34 ls (vi z :: vr g j :: st) σ Q ↔ On (ial σ g j z) (fun x => Wx d 105 35 ls (vi x :: st) σ Q) := u_iald d105_34
theorem d105_35 : decode (mB 105) 35 = .ok (.iastore, 1) := by decide +kernel
theorem u105_35 {d : Nat} {ls : Lo} {st : List Va} {σ : Sg} {Q : Rs → Sg → Prop} {x z : Int} {g j : Nat} : Wx d 105 35 ls (vi x :: vi z :: vr g j :: st) σ Q ↔ isA g j 0 z ∧ Wx d 105 36 ls st (up σ g j z.toNat x) Q := u_iast d105_35
theorem d105_36 : decode (mB 105) 36 = .ok (.aload_n 0, 1) := by decide +kernel
theorem u105_36 {d : Nat} {ls : Lo} {st : List Va} {σ : Sg} {Q : Rs → Sg → Prop} : Wx d 105 36 ls st σ Q ↔ Lr (lget ls 0) (fun z => Wx d 105 37 ls (.inr (.inl z) :: st) σ Q) := u_aload_n d105_36
theorem d105_37 : decode (mB 105) 37 = .ok (.getfield 102, 3) := by decide +kernel
theorem u105_37 {d : Nat} {ls : Lo} {st : List Va} {σ : Sg} {Q : Rs → Sg → Prop} {g j : Nat} : Wx d 105 37 ls (vr g j :: st) σ Q ↔ isO g j 7 ∧ Wx d 105 40 ls (fvv σ g j 40 :: st) σ Q := u_get (w := (7, 40)) d105_37 rfl
theorem d105_40 : decode (mB 105) 40 = .ok (.iconst 3, 1) := by decide +kernel
theorem u105_40 {d : Nat} {ls : Lo} {st : List Va} {σ : Sg} {Q : Rs → Sg → Prop} : Wx d 105 40 ls st σ Q ↔ Wx d 105 41 ls (vi 3 :: st) σ Q := u_iconst d105_40
theorem d105_41 : decode (mB 105) 41 = .ok (.aload_n 0, 1) := by decide +kernel
theorem u105_41 {d : Nat} {ls : Lo} {st : List Va} {σ : Sg} {Q : Rs → Sg → Prop} : Wx d 105 41 ls st σ Q ↔ Lr (lget ls 0) (fun z => Wx d 105 42 ls (.inr (.inl z) :: st) σ Q) := u_aload_n d105_41
theorem d105_42 : decode (mB 105) 42 = .ok (.getfield 26, 3) := by decide +kernel
theorem u105_42 {d : Nat} {ls : Lo} {st : List Va} {σ : Sg} {Q : Rs → Sg → Prop} {g j : Nat} : Wx d 105 42 ls (vr g j :: st) σ Q ↔ isO g j 7 ∧ Wx d 105 45 ls (fvv σ g j 8 :: st) σ Q := u_get (w := (7, 8)) d105_42 rfl
theorem d105_45 : decode (mB 105) 45 = .ok (.iload_n 1, 1) := by decide +kernel
theorem u105_45 {d : Nat} {ls : Lo} {st : List Va} {σ : Sg} {Q : Rs → Sg → Prop} : Wx d 105 45 ls st σ Q ↔ Li (lget ls 1) (fun z => Wx d 105 46 ls (vi z :: st) σ Q) := u_iload_n d105_45
theorem d105_46 : decode (mB 105) 46 = .ok (.iaload, 1) := by decide +kernel
theorem u105_46 {d : Nat} {ls : Lo} {st : List Va} {σ : Sg} {Q : Rs → Sg → Prop} {z : Int} {g j : Nat} : Wx d 105 46 ls (vi z :: vr g j :: st) σ Q ↔ On (ial σ g j z) (fun x => Wx d 105 47 ls (vi x :: st) σ Q) := u_iald d105_46
theorem d105_47 : decode (mB 105) 47 = .ok (.iastore, 1) := by decide +kernel
theorem u105_47 {d : Nat} {ls : Lo} {st : List Va} {σ : Sg} {Q : Rs → Sg → Prop} {x z : Int} {g j : Nat} : Wx d 105 47 ls (vi x :: vi z :: vr g j :: st) σ Q ↔ isA g j 0 z ∧ Wx d 105 48 ls st (up σ g j z.toNat x) Q := u_iast d105_47
theorem d105_48 : decode (mB 105) 48 = .ok (.return_, 1) := by decide +kernel
theorem u105_48 {d : Nat} {ls : Lo} {σ : Sg} {Q : Rs → Sg → Prop} : Wx d 105 48 ls [] σ Q ↔ Q (.inl none) σ := u_vret d105_48 rfl
/-! 106: FiguredBassModel.loadNext(II)V -/
theorem d106_0 : decode (mB 106) 0 = .ok (.aload_n 0, 1) := by decide +kernel
theorem u106_0 {d : Nat} {ls : Lo} {st : List Va} {σ : Sg} {Q : Rs → Sg → Prop} : Wx d 106 0 ls st σ Q ↔ Lr (lget ls 0) (fun z => Wx d 106 1 ls (.inr (.inl z) :: st) σ Q) := u_aload_n d106_0
theorem d106_1 : decode (mB 106) 1 = .ok (.getfield 105, 3) := by decide +kernel
theorem u106_1 {d : Nat} {ls : Lo} {st : List Va} {σ : Sg} {Q : Rs → Sg → Prop} {g j : Nat} : Wx d 106 1 ls (vr g j :: st) σ Q ↔ isO g j 7 ∧ Wx d 106 4 ls (fvv σ g j 41 :: st) σ Q := u_get (w := (7, 41)) d106_1 rfl
theorem d106_4 : decode (mB 106) 4 = .ok (.iconst 0, 1) := by decide +kernel
theorem u106_4 {d : Nat} {ls : Lo} {st : List Va} {σ : Sg} {Q : Rs → Sg → Prop} : Wx d 106 4 ls st σ Q ↔ Wx d 106 5 ls (vi 0 :: st) σ Q := u_iconst d106_4
theorem d106_5 : decode (mB 106) 5 = .ok (.aload_n 0, 1) := by decide +kernel
theorem u106_5 {d : Nat} {ls : Lo} {st : List Va} {σ : Sg} {Q : Rs → Sg → Prop} : Wx d 106 5 ls st σ Q ↔ Lr (lget ls 0) (fun z => Wx d 106 6 ls (.inr (.inl z) :: st) σ Q) := u_aload_n d106_5
theorem d106_6 : decode (mB 106) 6 = .ok (.getfield 68, 3) := by decide +kernel
theorem u106_6 {d : Nat} {ls : Lo} {st : List Va} {σ : Sg} {Q : Rs → Sg → Prop} {g j : Nat} : Wx d 106 6 ls (vr g j :: st) σ Q ↔ isO g j 7 ∧ Wx d 106 9 ls (fvv σ g j 27 :: st) σ Q := u_get (w := (7, 27)) d106_6 rfl
theorem d106_9 : decode (mB 106) 9 = .ok (.iload_n 2, 1) := by decide +kernel
theorem u106_9 {d : Nat} {ls : Lo} {st : List Va} {σ : Sg} {Q : Rs → Sg → Prop} : Wx d 106 9 ls st σ Q ↔ Li (lget ls 2) (fun z => Wx d 106 10 ls (vi z :: st) σ Q) := u_iload_n d106_9
theorem d106_10 : decode (mB 106) 10 = .ok (.iaload, 1) := by decide +kernel
theorem u106_10 {d : Nat} {ls : Lo} {st : List Va} {σ : Sg} {Q : Rs → Sg → Prop} {z : Int} {g j : Nat} : Wx d 106 10 ls (vi z :: vr g j :: st) σ Q ↔ On (ial σ g j z) (fun x => Wx d 106 11 ls (vi x :: st) σ Q) := u_iald d106_10
theorem d106_11 : decode (mB 106) 11 = .ok (.iastore, 1) := by decide +kernel
theorem u106_11 {d : Nat} {ls : Lo} {st : List Va} {σ : Sg} {Q : Rs → Sg → Prop} {x z : Int} {g j : Nat} : Wx d 106 11 ls (vi x :: vi z :: vr g j :: st) σ Q ↔ isA g j 0 z ∧ Wx d 106 12 ls st (up σ g j z.toNat x) Q := u_iast d106_11
theorem d106_12 : decode (mB 106) 12 = .ok (.aload_n 0, 1) := by decide +kernel
theorem u106_12 {d : Nat} {ls : Lo} {st : List Va} {σ : Sg} {Q : Rs → Sg → Prop} : Wx d 106 12 ls st σ Q ↔ Lr (lget ls 0) (fun z => Wx d 106 13 ls (.inr (.inl z) :: st) σ Q) := u_aload_n d106_12
theorem d106_13 : decode (mB 106) 13 = .ok (.getfield 105, 3) := by decide +kernel
theorem u106_13 {d : Nat} {ls : Lo} {st : List Va} {σ : Sg} {Q : Rs → Sg → Prop} {g j : Nat} : Wx d 106 13 ls (vr g j :: st) σ Q ↔ isO g j 7 ∧ Wx d 106 16 ls (fvv σ g j 41 :: st) σ Q := u_get (w := (7, 41)) d106_13 rfl
theorem d106_16 : decode (mB 106) 16 = .ok (.iconst 1, 1) := by decide +kernel
theorem u106_16 {d : Nat} {ls : Lo} {st : List Va} {σ : Sg} {Q : Rs → Sg → Prop} : Wx d 106 16 ls st σ Q ↔ Wx d 106 17 ls (vi 1 :: st) σ Q := u_iconst d106_16
theorem d106_17 : decode (mB 106) 17 = .ok (.aload_n 0, 1) := by decide +kernel
theorem u106_17 {d : Nat} {ls : Lo} {st : List Va} {σ : Sg} {Q : Rs → Sg → Prop} : Wx d 106 17 ls st σ Q ↔ Lr (lget ls 0) (fun z => Wx d 106 18 ls (.inr (.inl z) :: st) σ Q) := u_aload_n d106_17
theorem d106_18 : decode (mB 106) 18 = .ok (.getfield 71, 3) := by decide +kernel
theorem u106_18 {d : Nat} {ls : Lo} {st : List Va} {σ : Sg} {Q : Rs → Sg → Prop} {g j : Nat} : Wx d 106 18 ls (vr g j :: st) σ Q ↔ isO g j 7 ∧ Wx d 106 21 ls (fvv σ g j 28 :: st) σ Q := u_get (w := (7, 28)) d106_18 rfl
theorem d106_21 : decode (mB 106) 21 = .ok (.iload_n 2, 1) := by decide +kernel
theorem u106_21 {d : Nat} {ls : Lo} {st : List Va} {σ : Sg} {Q : Rs → Sg → Prop} : Wx d 106 21 ls st σ Q ↔ Li (lget ls 2) (fun z => Wx d 106 22 ls (vi z :: st) σ Q) := u_iload_n d106_21
theorem d106_22 : decode (mB 106) 22 = .ok (.iaload, 1) := by decide +kernel
theorem u106_22 {d : Nat} {ls : Lo} {st : List Va} {σ : Sg} {Q : Rs → Sg → Prop} {z : Int} {g j : Nat} : Wx d 106 22 ls (vi z :: vr g j :: st) σ Q ↔ On (ial σ g j z) (fun x => Wx d 106 23 ls (vi x :: st) σ Q) := u_iald d106_22
theorem d106_23 : decode (mB 106) 23 = .ok (.iastore, 1) := by decide +kernel
theorem u106_23 {d : Nat} {ls : Lo} {st : List Va} {σ : Sg} {Q : Rs → Sg → Prop} {x z : Int} {g j : Nat} : Wx d 106 23 ls (vi x :: vi z :: vr g j :: st) σ Q ↔ isA g j 0 z ∧ Wx d 106 24 ls st (up σ g j z.toNat x) Q := u_iast d106_23
theorem d106_24 : decode (mB 106) 24 = .ok (.aload_n 0, 1) := by decide +kernel
theorem u106_24 {d : Nat} {ls : Lo} {st : List Va} {σ : Sg} {Q : Rs → Sg → Prop} : Wx d 106 24 ls st σ Q ↔ Lr (lget ls 0) (fun z => Wx d 106 25 ls (.inr (.inl z) :: st) σ Q) := u_aload_n d106_24
theorem d106_25 : decode (mB 106) 25 = .ok (.getfield 105, 3) := by decide +kernel
theorem u106_25 {d : Nat} {ls : Lo} {st : List Va} {σ : Sg} {Q : Rs → Sg → Prop} {g j : Nat} : Wx d 106 25 ls (vr g j :: st) σ Q ↔ isO g j 7 ∧ Wx d 106 28 ls (fvv σ g j 41 :: st) σ Q := u_get (w := (7, 41)) d106_25 rfl
theorem d106_28 : decode (mB 106) 28 = .ok (.iconst 2, 1) := by decide +kernel
theorem u106_28 {d : Nat} {ls : Lo} {st : List Va} {σ : Sg} {Q : Rs → Sg → Prop} : Wx d 106 28 ls st σ Q ↔ Wx d 106 29 ls (vi 2 :: st) σ Q := u_iconst d106_28
theorem d106_29 : decode (mB 106) 29 = .ok (.aload_n 0, 1) := by decide +kernel
theorem u106_29 {d : Nat} {ls : Lo} {st : List Va} {σ : Sg} {Q : Rs → Sg → Prop} : Wx d 106 29 ls st σ Q ↔ Lr (lget ls 0) (fun z => Wx d 106 30 ls (.inr (.inl z) :: st) σ Q) := u_aload_n d106_29
theorem d106_30 : decode (mB 106) 30 = .ok (.getfield 74, 3) := by decide +kernel
theorem u106_30 {d : Nat} {ls : Lo} {st : List Va} {σ : Sg} {Q : Rs → Sg → Prop} {g j : Nat} : Wx d 106 30 ls (vr g j :: st) σ Q ↔ isO g j 7 ∧ Wx d 106 33 ls (fvv σ g j 29 :: st) σ Q := u_get (w := (7, 29)) d106_30 rfl
theorem d106_33 : decode (mB 106) 33 = .ok (.iload_n 2, 1) := by decide +kernel
theorem u106_33 {d : Nat} {ls : Lo} {st : List Va} {σ : Sg} {Q : Rs → Sg → Prop} : Wx d 106 33 ls st σ Q ↔ Li (lget ls 2) (fun z => Wx d 106 34 ls (vi z :: st) σ Q) := u_iload_n d106_33
theorem d106_34 : decode (mB 106) 34 = .ok (.iaload, 1) := by decide +kernel
theorem u106_34 {d : Nat} {ls : Lo} {st : List Va} {σ : Sg} {Q : Rs → Sg → Prop} {z : Int} {g j : Nat} : Wx d 106 34 ls (vi z :: vr g j :: st) σ Q ↔ On (ial σ g j z) (fun x => Wx d 106 35 ls (vi x :: st) σ Q) := u_iald d106_34
theorem d106_35 : decode (mB 106) 35 = .ok (.iastore, 1) := by decide +kernel
theorem u106_35 {d : Nat} {ls : Lo} {st : List Va} {σ : Sg} {Q : Rs → Sg → Prop} {x z : Int} {g j : Nat} : Wx d 106 35 ls (vi x :: vi z :: vr g j :: st) σ Q ↔ isA g j 0 z ∧ Wx d 106 36 ls st (up σ g j z.toNat x) Q := u_iast d106_35
theorem d106_36 : decode (mB 106) 36 = .ok (.aload_n 0, 1) := by decide +kernel
theorem u106_36 {d : Nat} {ls : Lo} {st : List Va} {σ : Sg} {Q : Rs → Sg → Prop} : Wx d 106 36 ls st σ Q ↔ Lr (lget ls 0) (fun z => Wx d 106 37 ls (.inr (.inl z) :: st) σ Q) := u_aload_n d106_36
theorem d106_37 : decode (mB 106) 37 = .ok (.getfield 105, 3) := by decide +kernel
theorem u106_37 {d : Nat} {ls : Lo} {st : List Va} {σ : Sg} {Q : Rs → Sg → Prop} {g j : Nat} : Wx d 106 37 ls (vr g j :: st) σ Q ↔ isO g j 7 ∧ Wx d 106 40 ls (fvv σ g j 41 :: st) σ Q := u_get (w := (7, 41)) d106_37 rfl
theorem d106_40 : decode (mB 106) 40 = .ok (.iconst 3, 1) := by decide +kernel
theorem u106_40 {d : Nat} {ls : Lo} {st : List Va} {σ : Sg} {Q : Rs → Sg → Prop} : Wx d 106 40 ls st σ Q ↔ Wx d 106 41 ls (vi 3 :: st) σ Q := u_iconst d106_40
theorem d106_41 : decode (mB 106) 41 = .ok (.aload_n 0, 1) := by decide +kernel
theorem u106_41 {d : Nat} {ls : Lo} {st : List Va} {σ : Sg} {Q : Rs → Sg → Prop} : Wx d 106 41 ls st σ Q ↔ Lr (lget ls 0) (fun z => Wx d 106 42 ls (.inr (.inl z) :: st) σ Q) := u_aload_n d106_41
theorem d106_42 : decode (mB 106) 42 = .ok (.getfield 26, 3) := by decide +kernel
theorem u106_42 {d : Nat} {ls : Lo} {st : List Va} {σ : Sg} {Q : Rs → Sg → Prop} {g j : Nat} : Wx d 106 42 ls (vr g j :: st) σ Q ↔ isO g j 7 ∧ Wx d 106 45 ls (fvv σ g j 8 :: st) σ Q := u_get (w := (7, 8)) d106_42 rfl
theorem d106_45 : decode (mB 106) 45 = .ok (.iload_n 1, 1) := by decide +kernel
theorem u106_45 {d : Nat} {ls : Lo} {st : List Va} {σ : Sg} {Q : Rs → Sg → Prop} : Wx d 106 45 ls st σ Q ↔ Li (lget ls 1) (fun z => Wx d 106 46 ls (vi z :: st) σ Q) := u_iload_n d106_45
theorem d106_46 : decode (mB 106) 46 = .ok (.iaload, 1) := by decide +kernel
theorem u106_46 {d : Nat} {ls : Lo} {st : List Va} {σ : Sg} {Q : Rs → Sg → Prop} {z : Int} {g j : Nat} : Wx d 106 46 ls (vi z :: vr g j :: st) σ Q ↔ On (ial σ g j z) (fun x => Wx d 106 47 ls (vi x :: st) σ Q) := u_iald d106_46
theorem d106_47 : decode (mB 106) 47 = .ok (.iastore, 1) := by decide +kernel
theorem u106_47 {d : Nat} {ls : Lo} {st : List Va} {σ : Sg} {Q : Rs → Sg → Prop} {x z : Int} {g j : Nat} : Wx d 106 47 ls (vi x :: vi z :: vr g j :: st) σ Q ↔ isA g j 0 z ∧ Wx d 106 48 ls st (up σ g j z.toNat x) Q := u_iast d106_47
theorem d106_48 : decode (mB 106) 48 = .ok (.return_, 1) := by decide +kernel
theorem u106_48 {d : Nat} {ls : Lo} {σ : Sg} {Q : Rs → Sg → Prop} : Wx d 106 48 ls [] σ Q ↔ Q (.inl none) σ := u_vret d106_48 rfl
/-! 107: FiguredBassModel.keeps(I)Z -/
theorem d107_0 : decode (mB 107) 0 = .ok (.iconst 1, 1) := by decide +kernel
theorem u107_0 {d : Nat} {ls : Lo} {st : List Va} {σ : Sg} {Q : Rs → Sg → Prop} : Wx d 107 0 ls st σ Q ↔ Wx d 107 1 ls (vi 1 :: st) σ Q := u_iconst d107_0
theorem d107_1 : decode (mB 107) 1 = .ok (.istore_n 2, 1) := by decide +kernel
theorem u107_1 {d : Nat} {ls : Lo} {st : List Va} {σ : Sg} {Q : Rs → Sg → Prop} {z : Int} : Wx d 107 1 ls (vi z :: st) σ Q ↔ Wx d 107 2 (lset ls 2 (vi z)) st σ Q := u_istore_n d107_1 (by decide)
theorem d107_2 : decode (mB 107) 2 = .ok (.iconst 0, 1) := by decide +kernel
theorem u107_2 {d : Nat} {ls : Lo} {st : List Va} {σ : Sg} {Q : Rs → Sg → Prop} : Wx d 107 2 ls st σ Q ↔ Wx d 107 3 ls (vi 0 :: st) σ Q := u_iconst d107_2
theorem d107_3 : decode (mB 107) 3 = .ok (.istore_n 3, 1) := by decide +kernel
theorem u107_3 {d : Nat} {ls : Lo} {st : List Va} {σ : Sg} {Q : Rs → Sg → Prop} {z : Int} : Wx d 107 3 ls (vi z :: st) σ Q ↔ Wx d 107 4 (lset ls 3 (vi z)) st σ Q := u_istore_n d107_3 (by decide)
theorem d107_4 : decode (mB 107) 4 = .ok (.iload_n 3, 1) := by decide +kernel
theorem u107_4 {d : Nat} {ls : Lo} {st : List Va} {σ : Sg} {Q : Rs → Sg → Prop} : Wx d 107 4 ls st σ Q ↔ Li (lget ls 3) (fun z => Wx d 107 5 ls (vi z :: st) σ Q) := u_iload_n d107_4
theorem d107_5 : decode (mB 107) 5 = .ok (.iconst 4, 1) := by decide +kernel
theorem u107_5 {d : Nat} {ls : Lo} {st : List Va} {σ : Sg} {Q : Rs → Sg → Prop} : Wx d 107 5 ls st σ Q ↔ Wx d 107 6 ls (vi 4 :: st) σ Q := u_iconst d107_5
theorem d107_6 : decode (mB 107) 6 = .ok (.if_icmp .ge 82, 3) := by decide +kernel
theorem u107_6 {d : Nat} {ls : Lo} {st : List Va} {σ : Sg} {Q : Rs → Sg → Prop} {a b : Int} (h : -2147483648 ≤ a ∧ a ≤ 2147483647) (h2 : -2147483648 ≤ b ∧ b ≤ 2147483647) : Wx d 107 6 ls (vi b :: vi a :: st) σ Q ↔ if b ≤ a then Wx d 107 88 ls st σ Q else Wx d 107 9 ls st σ Q := u_icge d107_6 (by decide) h h2
theorem d107_9 : decode (mB 107) 9 = .ok (.iload_n 2, 1) := by decide +kernel
theorem u107_9 {d : Nat} {ls : Lo} {st : List Va} {σ : Sg} {Q : Rs → Sg → Prop} : Wx d 107 9 ls st σ Q ↔ Li (lget ls 2) (fun z => Wx d 107 10 ls (vi z :: st) σ Q) := u_iload_n d107_9
theorem d107_10 : decode (mB 107) 10 = .ok (.ifCond .eq 33, 3) := by decide +kernel
theorem u107_10 {d : Nat} {ls : Lo} {st : List Va} {σ : Sg} {Q : Rs → Sg → Prop} {a : Int} (h : -2147483648 ≤ a ∧ a ≤ 2147483647) : Wx d 107 10 ls (vi a :: st) σ Q ↔ if a = 0 then Wx d 107 43 ls st σ Q else Wx d 107 13 ls st σ Q := u_ifeq d107_10 (by decide) h
theorem d107_13 : decode (mB 107) 13 = .ok (.aload_n 0, 1) := by decide +kernel
theorem u107_13 {d : Nat} {ls : Lo} {st : List Va} {σ : Sg} {Q : Rs → Sg → Prop} : Wx d 107 13 ls st σ Q ↔ Lr (lget ls 0) (fun z => Wx d 107 14 ls (.inr (.inl z) :: st) σ Q) := u_aload_n d107_13
theorem d107_14 : decode (mB 107) 14 = .ok (.iload_n 3, 1) := by decide +kernel
theorem u107_14 {d : Nat} {ls : Lo} {st : List Va} {σ : Sg} {Q : Rs → Sg → Prop} : Wx d 107 14 ls st σ Q ↔ Li (lget ls 3) (fun z => Wx d 107 15 ls (vi z :: st) σ Q) := u_iload_n d107_14
theorem d107_15 : decode (mB 107) 15 = .ok (.invokevirtual 198, 3) := by decide +kernel
theorem u107_15 {d : Nat} {ls : Lo} {st : List Va} {σ : Sg} {Q : Rs → Sg → Prop} {g j : Nat} {a1 : Va} : Wx (d + 1) 107 15 ls (a1 :: vr g j :: st) σ Q ↔ (isO g j 7 ∧ st.length ≤ 4 ∧ nlg [a1] = true) ∧ Wm d 102 [vr g j, a1] σ (Kc (d + 1) 107 18 ls st Q) := u_inv1 d107_15 rfl rfl rfl
theorem d107_18 : decode (mB 107) 18 = .ok (.ifCond .ne 25, 3) := by decide +kernel
theorem u107_18 {d : Nat} {ls : Lo} {st : List Va} {σ : Sg} {Q : Rs → Sg → Prop} {a : Int} (h : -2147483648 ≤ a ∧ a ≤ 2147483647) : Wx d 107 18 ls (vi a :: st) σ Q ↔ if ¬ a = 0 then Wx d 107 43 ls st σ Q else Wx d 107 21 ls st σ Q := u_ifne d107_18 (by decide) h
theorem d107_21 : decode (mB 107) 21 = .ok (.aload_n 0, 1) := by decide +kernel
theorem u107_21 {d : Nat} {ls : Lo} {st : List Va} {σ : Sg} {Q : Rs → Sg → Prop} : Wx d 107 21 ls st σ Q ↔ Lr (lget ls 0) (fun z => Wx d 107 22 ls (.inr (.inl z) :: st) σ Q) := u_aload_n d107_21
theorem d107_22 : decode (mB 107) 22 = .ok (.iload_n 1, 1) := by decide +kernel
theorem u107_22 {d : Nat} {ls : Lo} {st : List Va} {σ : Sg} {Q : Rs → Sg → Prop} : Wx d 107 22 ls st σ Q ↔ Li (lget ls 1) (fun z => Wx d 107 23 ls (vi z :: st) σ Q) := u_iload_n d107_22
theorem d107_23 : decode (mB 107) 23 = .ok (.iload_n 3, 1) := by decide +kernel
theorem u107_23 {d : Nat} {ls : Lo} {st : List Va} {σ : Sg} {Q : Rs → Sg → Prop} : Wx d 107 23 ls st σ Q ↔ Li (lget ls 3) (fun z => Wx d 107 24 ls (vi z :: st) σ Q) := u_iload_n d107_23
theorem d107_24 : decode (mB 107) 24 = .ok (.invokevirtual 201, 3) := by decide +kernel
theorem u107_24 {d : Nat} {ls : Lo} {st : List Va} {σ : Sg} {Q : Rs → Sg → Prop} {g j : Nat} {a1 a2 : Va} : Wx (d + 1) 107 24 ls (a2 :: a1 :: vr g j :: st) σ Q ↔ (isO g j 7 ∧ st.length ≤ 4 ∧ nlg [a2, a1] = true) ∧ Wm d 103 [vr g j, a1, a2] σ (Kc (d + 1) 107 27 ls st Q) := u_inv2 d107_24 rfl rfl rfl
theorem d107_27 : decode (mB 107) 27 = .ok (.ifCond .ne 16, 3) := by decide +kernel
theorem u107_27 {d : Nat} {ls : Lo} {st : List Va} {σ : Sg} {Q : Rs → Sg → Prop} {a : Int} (h : -2147483648 ≤ a ∧ a ≤ 2147483647) : Wx d 107 27 ls (vi a :: st) σ Q ↔ if ¬ a = 0 then Wx d 107 43 ls st σ Q else Wx d 107 30 ls st σ Q := u_ifne d107_27 (by decide) h
theorem d107_30 : decode (mB 107) 30 = .ok (.aload_n 0, 1) := by decide +kernel
theorem u107_30 {d : Nat} {ls : Lo} {st : List Va} {σ : Sg} {Q : Rs → Sg → Prop} : Wx d 107 30 ls st σ Q ↔ Lr (lget ls 0) (fun z => Wx d 107 31 ls (.inr (.inl z) :: st) σ Q) := u_aload_n d107_30
theorem d107_31 : decode (mB 107) 31 = .ok (.iload_n 1, 1) := by decide +kernel
theorem u107_31 {d : Nat} {ls : Lo} {st : List Va} {σ : Sg} {Q : Rs → Sg → Prop} : Wx d 107 31 ls st σ Q ↔ Li (lget ls 1) (fun z => Wx d 107 32 ls (vi z :: st) σ Q) := u_iload_n d107_31
theorem d107_32 : decode (mB 107) 32 = .ok (.iload_n 3, 1) := by decide +kernel
theorem u107_32 {d : Nat} {ls : Lo} {st : List Va} {σ : Sg} {Q : Rs → Sg → Prop} : Wx d 107 32 ls st σ Q ↔ Li (lget ls 3) (fun z => Wx d 107 33 ls (vi z :: st) σ Q) := u_iload_n d107_32
theorem d107_33 : decode (mB 107) 33 = .ok (.invokevirtual 205, 3) := by decide +kernel
theorem u107_33 {d : Nat} {ls : Lo} {st : List Va} {σ : Sg} {Q : Rs → Sg → Prop} {g j : Nat} {a1 a2 : Va} : Wx (d + 1) 107 33 ls (a2 :: a1 :: vr g j :: st) σ Q ↔ (isO g j 7 ∧ st.length ≤ 4 ∧ nlg [a2, a1] = true) ∧ Wm d 104 [vr g j, a1, a2] σ (Kc (d + 1) 107 36 ls st Q) := u_inv2 d107_33 rfl rfl rfl
theorem d107_36 : decode (mB 107) 36 = .ok (.ifCond .ne 7, 3) := by decide +kernel
theorem u107_36 {d : Nat} {ls : Lo} {st : List Va} {σ : Sg} {Q : Rs → Sg → Prop} {a : Int} (h : -2147483648 ≤ a ∧ a ≤ 2147483647) : Wx d 107 36 ls (vi a :: st) σ Q ↔ if ¬ a = 0 then Wx d 107 43 ls st σ Q else Wx d 107 39 ls st σ Q := u_ifne d107_36 (by decide) h
theorem d107_39 : decode (mB 107) 39 = .ok (.iconst 1, 1) := by decide +kernel
theorem u107_39 {d : Nat} {ls : Lo} {st : List Va} {σ : Sg} {Q : Rs → Sg → Prop} : Wx d 107 39 ls st σ Q ↔ Wx d 107 40 ls (vi 1 :: st) σ Q := u_iconst d107_39
theorem d107_40 : decode (mB 107) 40 = .ok (.goto 4, 3) := by decide +kernel
theorem u107_40 {d : Nat} {ls : Lo} {st : List Va} {σ : Sg} {Q : Rs → Sg → Prop} : Wx d 107 40 ls st σ Q ↔ Wx d 107 44 ls st σ Q := u_goto d107_40 (by decide)
theorem d107_43 : decode (mB 107) 43 = .ok (.iconst 0, 1) := by decide +kernel
theorem u107_43 {d : Nat} {ls : Lo} {st : List Va} {σ : Sg} {Q : Rs → Sg → Prop} : Wx d 107 43 ls st σ Q ↔ Wx d 107 44 ls (vi 0 :: st) σ Q := u_iconst d107_43
theorem d107_44 : decode (mB 107) 44 = .ok (.istore_n 2, 1) := by decide +kernel
theorem u107_44 {d : Nat} {ls : Lo} {st : List Va} {σ : Sg} {Q : Rs → Sg → Prop} {z : Int} : Wx d 107 44 ls (vi z :: st) σ Q ↔ Wx d 107 45 (lset ls 2 (vi z)) st σ Q := u_istore_n d107_44 (by decide)
theorem d107_45 : decode (mB 107) 45 = .ok (.iload_n 3, 1) := by decide +kernel
theorem u107_45 {d : Nat} {ls : Lo} {st : List Va} {σ : Sg} {Q : Rs → Sg → Prop} : Wx d 107 45 ls st σ Q ↔ Li (lget ls 3) (fun z => Wx d 107 46 ls (vi z :: st) σ Q) := u_iload_n d107_45
theorem d107_46 : decode (mB 107) 46 = .ok (.iconst 1, 1) := by decide +kernel
theorem u107_46 {d : Nat} {ls : Lo} {st : List Va} {σ : Sg} {Q : Rs → Sg → Prop} : Wx d 107 46 ls st σ Q ↔ Wx d 107 47 ls (vi 1 :: st) σ Q := u_iconst d107_46
theorem d107_47 : decode (mB 107) 47 = .ok (.iadd, 1) := by decide +kernel
theorem u107_47 {d : Nat} {ls : Lo} {st : List Va} {σ : Sg} {Q : Rs → Sg → Prop} {a b : Int} : Wx d 107 47 ls (vi b :: vi a :: st) σ Q ↔ Wx d 107 48 ls (vi (a + b) :: st) σ Q := u_iadd d107_47
theorem d107_48 : decode (mB 107) 48 = .ok (.istore 4, 2) := by decide +kernel
theorem u107_48 {d : Nat} {ls : Lo} {st : List Va} {σ : Sg} {Q : Rs → Sg → Prop} {z : Int} : Wx d 107 48 ls (vi z :: st) σ Q ↔ Wx d 107 50 (lset ls 4 (vi z)) st σ Q := u_istore d107_48 (by decide)
theorem d107_50 : decode (mB 107) 50 = .ok (.iload 4, 2) := by decide +kernel
theorem u107_50 {d : Nat} {ls : Lo} {st : List Va} {σ : Sg} {Q : Rs → Sg → Prop} : Wx d 107 50 ls st σ Q ↔ Li (lget ls 4) (fun z => Wx d 107 52 ls (vi z :: st) σ Q) := u_iload d107_50
theorem d107_52 : decode (mB 107) 52 = .ok (.iconst 4, 1) := by decide +kernel
theorem u107_52 {d : Nat} {ls : Lo} {st : List Va} {σ : Sg} {Q : Rs → Sg → Prop} : Wx d 107 52 ls st σ Q ↔ Wx d 107 53 ls (vi 4 :: st) σ Q := u_iconst d107_52
theorem d107_53 : decode (mB 107) 53 = .ok (.if_icmp .ge 29, 3) := by decide +kernel
theorem u107_53 {d : Nat} {ls : Lo} {st : List Va} {σ : Sg} {Q : Rs → Sg → Prop} {a b : Int} (h : -2147483648 ≤ a ∧ a ≤ 2147483647) (h2 : -2147483648 ≤ b ∧ b ≤ 2147483647) : Wx d 107 53 ls (vi b :: vi a :: st) σ Q ↔ if b ≤ a then Wx d 107 82 ls st σ Q else Wx d 107 56 ls st σ Q := u_icge d107_53 (by decide) h h2
theorem d107_56 : decode (mB 107) 56 = .ok (.iload_n 2, 1) := by decide +kernel
theorem u107_56 {d : Nat} {ls : Lo} {st : List Va} {σ : Sg} {Q : Rs → Sg → Prop} : Wx d 107 56 ls st σ Q ↔ Li (lget ls 2) (fun z => Wx d 107 57 ls (vi z :: st) σ Q) := u_iload_n d107_56
theorem d107_57 : decode (mB 107) 57 = .ok (.ifCond .eq 17, 3) := by decide +kernel
theorem u107_57 {d : Nat} {ls : Lo} {st : List Va} {σ : Sg} {Q : Rs → Sg → Prop} {a : Int} (h : -2147483648 ≤ a ∧ a ≤ 2147483647) : Wx d 107 57 ls (vi a :: st) σ Q ↔ if a = 0 then Wx d 107 74 ls st σ Q else Wx d 107 60 ls st σ Q := u_ifeq d107_57 (by decide) h
theorem d107_60 : decode (mB 107) 60 = .ok (.aload_n 0, 1) := by decide +kernel
theorem u107_60 {d : Nat} {ls : Lo} {st : List Va} {σ : Sg} {Q : Rs → Sg → Prop} : Wx d 107 60 ls st σ Q ↔ Lr (lget ls 0) (fun z => Wx d 107 61 ls (.inr (.inl z) :: st) σ Q) := u_aload_n d107_60
theorem d107_61 : decode (mB 107) 61 = .ok (.iload_n 3, 1) := by decide +kernel
theorem u107_61 {d : Nat} {ls : Lo} {st : List Va} {σ : Sg} {Q : Rs → Sg → Prop} : Wx d 107 61 ls st σ Q ↔ Li (lget ls 3) (fun z => Wx d 107 62 ls (vi z :: st) σ Q) := u_iload_n d107_61
theorem d107_62 : decode (mB 107) 62 = .ok (.iload 4, 2) := by decide +kernel
theorem u107_62 {d : Nat} {ls : Lo} {st : List Va} {σ : Sg} {Q : Rs → Sg → Prop} : Wx d 107 62 ls st σ Q ↔ Li (lget ls 4) (fun z => Wx d 107 64 ls (vi z :: st) σ Q) := u_iload d107_62
theorem d107_64 : decode (mB 107) 64 = .ok (.invokevirtual 208, 3) := by decide +kernel
theorem u107_64 {d : Nat} {ls : Lo} {st : List Va} {σ : Sg} {Q : Rs → Sg → Prop} {g j : Nat} {a1 a2 : Va} : Wx (d + 1) 107 64 ls (a2 :: a1 :: vr g j :: st) σ Q ↔ (isO g j 7 ∧ st.length ≤ 4 ∧ nlg [a2, a1] = true) ∧ Wm d 101 [vr g j, a1, a2] σ (Kc (d + 1) 107 67 ls st Q) := u_inv2 d107_64 rfl rfl rfl
theorem d107_67 : decode (mB 107) 67 = .ok (.ifCond .ne 7, 3) := by decide +kernel
theorem u107_67 {d : Nat} {ls : Lo} {st : List Va} {σ : Sg} {Q : Rs → Sg → Prop} {a : Int} (h : -2147483648 ≤ a ∧ a ≤ 2147483647) : Wx d 107 67 ls (vi a :: st) σ Q ↔ if ¬ a = 0 then Wx d 107 74 ls st σ Q else Wx d 107 70 ls st σ Q := u_ifne d107_67 (by decide) h
theorem d107_70 : decode (mB 107) 70 = .ok (.iconst 1, 1) := by decide +kernel
theorem u107_70 {d : Nat} {ls : Lo} {st : List Va} {σ : Sg} {Q : Rs → Sg → Prop} : Wx d 107 70 ls st σ Q ↔ Wx d 107 71 ls (vi 1 :: st) σ Q := u_iconst d107_70
theorem d107_71 : decode (mB 107) 71 = .ok (.goto 4, 3) := by decide +kernel
theorem u107_71 {d : Nat} {ls : Lo} {st : List Va} {σ : Sg} {Q : Rs → Sg → Prop} : Wx d 107 71 ls st σ Q ↔ Wx d 107 75 ls st σ Q := u_goto d107_71 (by decide)
theorem d107_74 : decode (mB 107) 74 = .ok (.iconst 0, 1) := by decide +kernel
theorem u107_74 {d : Nat} {ls : Lo} {st : List Va} {σ : Sg} {Q : Rs → Sg → Prop} : Wx d 107 74 ls st σ Q ↔ Wx d 107 75 ls (vi 0 :: st) σ Q := u_iconst d107_74
theorem d107_75 : decode (mB 107) 75 = .ok (.istore_n 2, 1) := by decide +kernel
theorem u107_75 {d : Nat} {ls : Lo} {st : List Va} {σ : Sg} {Q : Rs → Sg → Prop} {z : Int} : Wx d 107 75 ls (vi z :: st) σ Q ↔ Wx d 107 76 (lset ls 2 (vi z)) st σ Q := u_istore_n d107_75 (by decide)
theorem d107_76 : decode (mB 107) 76 = .ok (.iinc 4 1, 3) := by decide +kernel
theorem u107_76 {d : Nat} {ls : Lo} {st : List Va} {σ : Sg} {Q : Rs → Sg → Prop} : Wx d 107 76 ls st σ Q ↔ Li (lget ls 4) (fun z => Wx d 107 79 (lset ls 4 (vi (z + 1))) st σ Q) := u_iinc d107_76 (by decide)
theorem d107_79 : decode (mB 107) 79 = .ok (.goto (-29), 3) := by decide +kernel
theorem u107_79 {d : Nat} {ls : Lo} {st : List Va} {σ : Sg} {Q : Rs → Sg → Prop} : Wx d 107 79 ls st σ Q ↔ Wx d 107 50 ls st σ Q := u_goto d107_79 (by decide)
theorem d107_82 : decode (mB 107) 82 = .ok (.iinc 3 1, 3) := by decide +kernel
theorem u107_82 {d : Nat} {ls : Lo} {st : List Va} {σ : Sg} {Q : Rs → Sg → Prop} : Wx d 107 82 ls st σ Q ↔ Li (lget ls 3) (fun z => Wx d 107 85 (lset ls 3 (vi (z + 1))) st σ Q) := u_iinc d107_82 (by decide)
theorem d107_85 : decode (mB 107) 85 = .ok (.goto (-81), 3) := by decide +kernel
theorem u107_85 {d : Nat} {ls : Lo} {st : List Va} {σ : Sg} {Q : Rs → Sg → Prop} : Wx d 107 85 ls st σ Q ↔ Wx d 107 4 ls st σ Q := u_goto d107_85 (by decide)
theorem d107_88 : decode (mB 107) 88 = .ok (.iload_n 2, 1) := by decide +kernel
theorem u107_88 {d : Nat} {ls : Lo} {st : List Va} {σ : Sg} {Q : Rs → Sg → Prop} : Wx d 107 88 ls st σ Q ↔ Li (lget ls 2) (fun z => Wx d 107 89 ls (vi z :: st) σ Q) := u_iload_n d107_88
theorem d107_89 : decode (mB 107) 89 = .ok (.ireturn, 1) := by decide +kernel
theorem u107_89 {d : Nat} {ls : Lo} {σ : Sg} {Q : Rs → Sg → Prop} {z : Int} (h : z = 0 ∨ z = 1) : Wx d 107 89 ls [vi z] σ Q ↔ Q (.inl (some (vi z))) σ := u_zret d107_89 rfl h
/-! 108: FiguredBassModel.way(I)I -/
theorem d108_0 : decode (mB 108) 0 = .ok (.aload_n 0, 1) := by decide +kernel
theorem u108_0 {d : Nat} {ls : Lo} {st : List Va} {σ : Sg} {Q : Rs → Sg → Prop} : Wx d 108 0 ls st σ Q ↔ Lr (lget ls 0) (fun z => Wx d 108 1 ls (.inr (.inl z) :: st) σ Q) := u_aload_n d108_0
theorem d108_1 : decode (mB 108) 1 = .ok (.getfield 105, 3) := by decide +kernel
theorem u108_1 {d : Nat} {ls : Lo} {st : List Va} {σ : Sg} {Q : Rs → Sg → Prop} {g j : Nat} : Wx d 108 1 ls (vr g j :: st) σ Q ↔ isO g j 7 ∧ Wx d 108 4 ls (fvv σ g j 41 :: st) σ Q := u_get (w := (7, 41)) d108_1 rfl
theorem d108_4 : decode (mB 108) 4 = .ok (.iload_n 1, 1) := by decide +kernel
theorem u108_4 {d : Nat} {ls : Lo} {st : List Va} {σ : Sg} {Q : Rs → Sg → Prop} : Wx d 108 4 ls st σ Q ↔ Li (lget ls 1) (fun z => Wx d 108 5 ls (vi z :: st) σ Q) := u_iload_n d108_4
theorem d108_5 : decode (mB 108) 5 = .ok (.iaload, 1) := by decide +kernel
theorem u108_5 {d : Nat} {ls : Lo} {st : List Va} {σ : Sg} {Q : Rs → Sg → Prop} {z : Int} {g j : Nat} : Wx d 108 5 ls (vi z :: vr g j :: st) σ Q ↔ On (ial σ g j z) (fun x => Wx d 108 6 ls (vi x :: st) σ Q) := u_iald d108_5
theorem d108_6 : decode (mB 108) 6 = .ok (.aload_n 0, 1) := by decide +kernel
theorem u108_6 {d : Nat} {ls : Lo} {st : List Va} {σ : Sg} {Q : Rs → Sg → Prop} : Wx d 108 6 ls st σ Q ↔ Lr (lget ls 0) (fun z => Wx d 108 7 ls (.inr (.inl z) :: st) σ Q) := u_aload_n d108_6
theorem d108_7 : decode (mB 108) 7 = .ok (.getfield 102, 3) := by decide +kernel
theorem u108_7 {d : Nat} {ls : Lo} {st : List Va} {σ : Sg} {Q : Rs → Sg → Prop} {g j : Nat} : Wx d 108 7 ls (vr g j :: st) σ Q ↔ isO g j 7 ∧ Wx d 108 10 ls (fvv σ g j 40 :: st) σ Q := u_get (w := (7, 40)) d108_7 rfl
theorem d108_10 : decode (mB 108) 10 = .ok (.iload_n 1, 1) := by decide +kernel
theorem u108_10 {d : Nat} {ls : Lo} {st : List Va} {σ : Sg} {Q : Rs → Sg → Prop} : Wx d 108 10 ls st σ Q ↔ Li (lget ls 1) (fun z => Wx d 108 11 ls (vi z :: st) σ Q) := u_iload_n d108_10
theorem d108_11 : decode (mB 108) 11 = .ok (.iaload, 1) := by decide +kernel
theorem u108_11 {d : Nat} {ls : Lo} {st : List Va} {σ : Sg} {Q : Rs → Sg → Prop} {z : Int} {g j : Nat} : Wx d 108 11 ls (vi z :: vr g j :: st) σ Q ↔ On (ial σ g j z) (fun x => Wx d 108 12 ls (vi x :: st) σ Q) := u_iald d108_11
theorem d108_12 : decode (mB 108) 12 = .ok (.if_icmp .le 19, 3) := by decide +kernel
theorem u108_12 {d : Nat} {ls : Lo} {st : List Va} {σ : Sg} {Q : Rs → Sg → Prop} {a b : Int} (h : -2147483648 ≤ a ∧ a ≤ 2147483647) (h2 : -2147483648 ≤ b ∧ b ≤ 2147483647) : Wx d 108 12 ls (vi b :: vi a :: st) σ Q ↔ if a ≤ b then Wx d 108 31 ls st σ Q else Wx d 108 15 ls st σ Q := u_icle d108_12 (by decide) h h2
theorem d108_15 : decode (mB 108) 15 = .ok (.aload_n 0, 1) := by decide +kernel
theorem u108_15 {d : Nat} {ls : Lo} {st : List Va} {σ : Sg} {Q : Rs → Sg → Prop} : Wx d 108 15 ls st σ Q ↔ Lr (lget ls 0) (fun z => Wx d 108 16 ls (.inr (.inl z) :: st) σ Q) := u_aload_n d108_15
theorem d108_16 : decode (mB 108) 16 = .ok (.getfield 105, 3) := by decide +kernel
theorem u108_16 {d : Nat} {ls : Lo} {st : List Va} {σ : Sg} {Q : Rs → Sg → Prop} {g j : Nat} : Wx d 108 16 ls (vr g j :: st) σ Q ↔ isO g j 7 ∧ Wx d 108 19 ls (fvv σ g j 41 :: st) σ Q := u_get (w := (7, 41)) d108_16 rfl
theorem d108_19 : decode (mB 108) 19 = .ok (.iload_n 1, 1) := by decide +kernel
theorem u108_19 {d : Nat} {ls : Lo} {st : List Va} {σ : Sg} {Q : Rs → Sg → Prop} : Wx d 108 19 ls st σ Q ↔ Li (lget ls 1) (fun z => Wx d 108 20 ls (vi z :: st) σ Q) := u_iload_n d108_19
theorem d108_20 : decode (mB 108) 20 = .ok (.iaload, 1) := by decide +kernel
theorem u108_20 {d : Nat} {ls : Lo} {st : List Va} {σ : Sg} {Q : Rs → Sg → Prop} {z : Int} {g j : Nat} : Wx d 108 20 ls (vi z :: vr g j :: st) σ Q ↔ On (ial σ g j z) (fun x => Wx d 108 21 ls (vi x :: st) σ Q) := u_iald d108_20
theorem d108_21 : decode (mB 108) 21 = .ok (.aload_n 0, 1) := by decide +kernel
theorem u108_21 {d : Nat} {ls : Lo} {st : List Va} {σ : Sg} {Q : Rs → Sg → Prop} : Wx d 108 21 ls st σ Q ↔ Lr (lget ls 0) (fun z => Wx d 108 22 ls (.inr (.inl z) :: st) σ Q) := u_aload_n d108_21
theorem d108_22 : decode (mB 108) 22 = .ok (.getfield 102, 3) := by decide +kernel
theorem u108_22 {d : Nat} {ls : Lo} {st : List Va} {σ : Sg} {Q : Rs → Sg → Prop} {g j : Nat} : Wx d 108 22 ls (vr g j :: st) σ Q ↔ isO g j 7 ∧ Wx d 108 25 ls (fvv σ g j 40 :: st) σ Q := u_get (w := (7, 40)) d108_22 rfl
theorem d108_25 : decode (mB 108) 25 = .ok (.iload_n 1, 1) := by decide +kernel
theorem u108_25 {d : Nat} {ls : Lo} {st : List Va} {σ : Sg} {Q : Rs → Sg → Prop} : Wx d 108 25 ls st σ Q ↔ Li (lget ls 1) (fun z => Wx d 108 26 ls (vi z :: st) σ Q) := u_iload_n d108_25
theorem d108_26 : decode (mB 108) 26 = .ok (.iaload, 1) := by decide +kernel
theorem u108_26 {d : Nat} {ls : Lo} {st : List Va} {σ : Sg} {Q : Rs → Sg → Prop} {z : Int} {g j : Nat} : Wx d 108 26 ls (vi z :: vr g j :: st) σ Q ↔ On (ial σ g j z) (fun x => Wx d 108 27 ls (vi x :: st) σ Q) := u_iald d108_26
theorem d108_27 : decode (mB 108) 27 = .ok (.isub, 1) := by decide +kernel
theorem u108_27 {d : Nat} {ls : Lo} {st : List Va} {σ : Sg} {Q : Rs → Sg → Prop} {a b : Int} : Wx d 108 27 ls (vi b :: vi a :: st) σ Q ↔ Wx d 108 28 ls (vi (a - b) :: st) σ Q := u_isub d108_27
theorem d108_28 : decode (mB 108) 28 = .ok (.goto 16, 3) := by decide +kernel
theorem u108_28 {d : Nat} {ls : Lo} {st : List Va} {σ : Sg} {Q : Rs → Sg → Prop} : Wx d 108 28 ls st σ Q ↔ Wx d 108 44 ls st σ Q := u_goto d108_28 (by decide)
theorem d108_31 : decode (mB 108) 31 = .ok (.aload_n 0, 1) := by decide +kernel
theorem u108_31 {d : Nat} {ls : Lo} {st : List Va} {σ : Sg} {Q : Rs → Sg → Prop} : Wx d 108 31 ls st σ Q ↔ Lr (lget ls 0) (fun z => Wx d 108 32 ls (.inr (.inl z) :: st) σ Q) := u_aload_n d108_31
theorem d108_32 : decode (mB 108) 32 = .ok (.getfield 102, 3) := by decide +kernel
theorem u108_32 {d : Nat} {ls : Lo} {st : List Va} {σ : Sg} {Q : Rs → Sg → Prop} {g j : Nat} : Wx d 108 32 ls (vr g j :: st) σ Q ↔ isO g j 7 ∧ Wx d 108 35 ls (fvv σ g j 40 :: st) σ Q := u_get (w := (7, 40)) d108_32 rfl
theorem d108_35 : decode (mB 108) 35 = .ok (.iload_n 1, 1) := by decide +kernel
theorem u108_35 {d : Nat} {ls : Lo} {st : List Va} {σ : Sg} {Q : Rs → Sg → Prop} : Wx d 108 35 ls st σ Q ↔ Li (lget ls 1) (fun z => Wx d 108 36 ls (vi z :: st) σ Q) := u_iload_n d108_35
theorem d108_36 : decode (mB 108) 36 = .ok (.iaload, 1) := by decide +kernel
theorem u108_36 {d : Nat} {ls : Lo} {st : List Va} {σ : Sg} {Q : Rs → Sg → Prop} {z : Int} {g j : Nat} : Wx d 108 36 ls (vi z :: vr g j :: st) σ Q ↔ On (ial σ g j z) (fun x => Wx d 108 37 ls (vi x :: st) σ Q) := u_iald d108_36
theorem d108_37 : decode (mB 108) 37 = .ok (.aload_n 0, 1) := by decide +kernel
theorem u108_37 {d : Nat} {ls : Lo} {st : List Va} {σ : Sg} {Q : Rs → Sg → Prop} : Wx d 108 37 ls st σ Q ↔ Lr (lget ls 0) (fun z => Wx d 108 38 ls (.inr (.inl z) :: st) σ Q) := u_aload_n d108_37
theorem d108_38 : decode (mB 108) 38 = .ok (.getfield 105, 3) := by decide +kernel
theorem u108_38 {d : Nat} {ls : Lo} {st : List Va} {σ : Sg} {Q : Rs → Sg → Prop} {g j : Nat} : Wx d 108 38 ls (vr g j :: st) σ Q ↔ isO g j 7 ∧ Wx d 108 41 ls (fvv σ g j 41 :: st) σ Q := u_get (w := (7, 41)) d108_38 rfl
theorem d108_41 : decode (mB 108) 41 = .ok (.iload_n 1, 1) := by decide +kernel
theorem u108_41 {d : Nat} {ls : Lo} {st : List Va} {σ : Sg} {Q : Rs → Sg → Prop} : Wx d 108 41 ls st σ Q ↔ Li (lget ls 1) (fun z => Wx d 108 42 ls (vi z :: st) σ Q) := u_iload_n d108_41
theorem d108_42 : decode (mB 108) 42 = .ok (.iaload, 1) := by decide +kernel
theorem u108_42 {d : Nat} {ls : Lo} {st : List Va} {σ : Sg} {Q : Rs → Sg → Prop} {z : Int} {g j : Nat} : Wx d 108 42 ls (vi z :: vr g j :: st) σ Q ↔ On (ial σ g j z) (fun x => Wx d 108 43 ls (vi x :: st) σ Q) := u_iald d108_42
theorem d108_43 : decode (mB 108) 43 = .ok (.isub, 1) := by decide +kernel
theorem u108_43 {d : Nat} {ls : Lo} {st : List Va} {σ : Sg} {Q : Rs → Sg → Prop} {a b : Int} : Wx d 108 43 ls (vi b :: vi a :: st) σ Q ↔ Wx d 108 44 ls (vi (a - b) :: st) σ Q := u_isub d108_43
theorem d108_44 : decode (mB 108) 44 = .ok (.ireturn, 1) := by decide +kernel
theorem u108_44 {d : Nat} {ls : Lo} {σ : Sg} {Q : Rs → Sg → Prop} {z : Int} : Wx d 108 44 ls [vi z] σ Q ↔ Q (.inl (some (vi z))) σ := u_iret d108_44 rfl
/-! 109: FiguredBassModel.fee(II)I -/
theorem d109_0 : decode (mB 109) 0 = .ok (.iconst 0, 1) := by decide +kernel
theorem u109_0 {d : Nat} {ls : Lo} {st : List Va} {σ : Sg} {Q : Rs → Sg → Prop} : Wx d 109 0 ls st σ Q ↔ Wx d 109 1 ls (vi 0 :: st) σ Q := u_iconst d109_0
theorem d109_1 : decode (mB 109) 1 = .ok (.istore_n 3, 1) := by decide +kernel
theorem u109_1 {d : Nat} {ls : Lo} {st : List Va} {σ : Sg} {Q : Rs → Sg → Prop} {z : Int} : Wx d 109 1 ls (vi z :: st) σ Q ↔ Wx d 109 2 (lset ls 3 (vi z)) st σ Q := u_istore_n d109_1 (by decide)
theorem d109_2 : decode (mB 109) 2 = .ok (.iconst 0, 1) := by decide +kernel
theorem u109_2 {d : Nat} {ls : Lo} {st : List Va} {σ : Sg} {Q : Rs → Sg → Prop} : Wx d 109 2 ls st σ Q ↔ Wx d 109 3 ls (vi 0 :: st) σ Q := u_iconst d109_2
theorem d109_3 : decode (mB 109) 3 = .ok (.istore 4, 2) := by decide +kernel
theorem u109_3 {d : Nat} {ls : Lo} {st : List Va} {σ : Sg} {Q : Rs → Sg → Prop} {z : Int} : Wx d 109 3 ls (vi z :: st) σ Q ↔ Wx d 109 5 (lset ls 4 (vi z)) st σ Q := u_istore d109_3 (by decide)
theorem d109_5 : decode (mB 109) 5 = .ok (.iload 4, 2) := by decide +kernel
theorem u109_5 {d : Nat} {ls : Lo} {st : List Va} {σ : Sg} {Q : Rs → Sg → Prop} : Wx d 109 5 ls st σ Q ↔ Li (lget ls 4) (fun z => Wx d 109 7 ls (vi z :: st) σ Q) := u_iload d109_5
theorem d109_7 : decode (mB 109) 7 = .ok (.iconst 4, 1) := by decide +kernel
theorem u109_7 {d : Nat} {ls : Lo} {st : List Va} {σ : Sg} {Q : Rs → Sg → Prop} : Wx d 109 7 ls st σ Q ↔ Wx d 109 8 ls (vi 4 :: st) σ Q := u_iconst d109_7
theorem d109_8 : decode (mB 109) 8 = .ok (.if_icmp .ge 35, 3) := by decide +kernel
theorem u109_8 {d : Nat} {ls : Lo} {st : List Va} {σ : Sg} {Q : Rs → Sg → Prop} {a b : Int} (h : -2147483648 ≤ a ∧ a ≤ 2147483647) (h2 : -2147483648 ≤ b ∧ b ≤ 2147483647) : Wx d 109 8 ls (vi b :: vi a :: st) σ Q ↔ if b ≤ a then Wx d 109 43 ls st σ Q else Wx d 109 11 ls st σ Q := u_icge d109_8 (by decide) h h2
theorem d109_11 : decode (mB 109) 11 = .ok (.iload_n 3, 1) := by decide +kernel
theorem u109_11 {d : Nat} {ls : Lo} {st : List Va} {σ : Sg} {Q : Rs → Sg → Prop} : Wx d 109 11 ls st σ Q ↔ Li (lget ls 3) (fun z => Wx d 109 12 ls (vi z :: st) σ Q) := u_iload_n d109_11
theorem d109_12 : decode (mB 109) 12 = .ok (.iload_n 1, 1) := by decide +kernel
theorem u109_12 {d : Nat} {ls : Lo} {st : List Va} {σ : Sg} {Q : Rs → Sg → Prop} : Wx d 109 12 ls st σ Q ↔ Li (lget ls 1) (fun z => Wx d 109 13 ls (vi z :: st) σ Q) := u_iload_n d109_12
theorem d109_13 : decode (mB 109) 13 = .ok (.ifCond .lt 21, 3) := by decide +kernel
theorem u109_13 {d : Nat} {ls : Lo} {st : List Va} {σ : Sg} {Q : Rs → Sg → Prop} {a : Int} (h : -2147483648 ≤ a ∧ a ≤ 2147483647) : Wx d 109 13 ls (vi a :: st) σ Q ↔ if a < 0 then Wx d 109 34 ls st σ Q else Wx d 109 16 ls st σ Q := u_iflt d109_13 (by decide) h
theorem d109_16 : decode (mB 109) 16 = .ok (.aload_n 0, 1) := by decide +kernel
theorem u109_16 {d : Nat} {ls : Lo} {st : List Va} {σ : Sg} {Q : Rs → Sg → Prop} : Wx d 109 16 ls st σ Q ↔ Lr (lget ls 0) (fun z => Wx d 109 17 ls (.inr (.inl z) :: st) σ Q) := u_aload_n d109_16
theorem d109_17 : decode (mB 109) 17 = .ok (.getfield 102, 3) := by decide +kernel
theorem u109_17 {d : Nat} {ls : Lo} {st : List Va} {σ : Sg} {Q : Rs → Sg → Prop} {g j : Nat} : Wx d 109 17 ls (vr g j :: st) σ Q ↔ isO g j 7 ∧ Wx d 109 20 ls (fvv σ g j 40 :: st) σ Q := u_get (w := (7, 40)) d109_17 rfl
theorem d109_20 : decode (mB 109) 20 = .ok (.iload 4, 2) := by decide +kernel
theorem u109_20 {d : Nat} {ls : Lo} {st : List Va} {σ : Sg} {Q : Rs → Sg → Prop} : Wx d 109 20 ls st σ Q ↔ Li (lget ls 4) (fun z => Wx d 109 22 ls (vi z :: st) σ Q) := u_iload d109_20
theorem d109_22 : decode (mB 109) 22 = .ok (.iaload, 1) := by decide +kernel
theorem u109_22 {d : Nat} {ls : Lo} {st : List Va} {σ : Sg} {Q : Rs → Sg → Prop} {z : Int} {g j : Nat} : Wx d 109 22 ls (vi z :: vr g j :: st) σ Q ↔ On (ial σ g j z) (fun x => Wx d 109 23 ls (vi x :: st) σ Q) := u_iald d109_22
theorem d109_23 : decode (mB 109) 23 = .ok (.bipush 12, 2) := by decide +kernel
theorem u109_23 {d : Nat} {ls : Lo} {st : List Va} {σ : Sg} {Q : Rs → Sg → Prop} : Wx d 109 23 ls st σ Q ↔ Wx d 109 25 ls (vi 12 :: st) σ Q := u_bipush d109_23 (by decide)
theorem d109_25 : decode (mB 109) 25 = .ok (.irem, 1) := by decide +kernel
theorem u109_25 {d : Nat} {ls : Lo} {st : List Va} {σ : Sg} {Q : Rs → Sg → Prop} {a b : Int} (h : (-2147483648 ≤ a ∧ a ≤ 2147483647) ∧ 0 < b ∧ b ≤ 2147483647) : Wx d 109 25 ls (vi b :: vi a :: st) σ Q ↔ Wx d 109 26 ls (vi (Int.tmod a b) :: st) σ Q := u_irem d109_25 h
theorem d109_26 : decode (mB 109) 26 = .ok (.iload_n 1, 1) := by decide +kernel
theorem u109_26 {d : Nat} {ls : Lo} {st : List Va} {σ : Sg} {Q : Rs → Sg → Prop} : Wx d 109 26 ls st σ Q ↔ Li (lget ls 1) (fun z => Wx d 109 27 ls (vi z :: st) σ Q) := u_iload_n d109_26
theorem d109_27 : decode (mB 109) 27 = .ok (.if_icmp .ne 7, 3) := by decide +kernel
theorem u109_27 {d : Nat} {ls : Lo} {st : List Va} {σ : Sg} {Q : Rs → Sg → Prop} {a b : Int} (h : -2147483648 ≤ a ∧ a ≤ 2147483647) (h2 : -2147483648 ≤ b ∧ b ≤ 2147483647) : Wx d 109 27 ls (vi b :: vi a :: st) σ Q ↔ if ¬ a = b then Wx d 109 34 ls st σ Q else Wx d 109 30 ls st σ Q := u_icne d109_27 (by decide) h h2
theorem d109_30 : decode (mB 109) 30 = .ok (.iconst 1, 1) := by decide +kernel
theorem u109_30 {d : Nat} {ls : Lo} {st : List Va} {σ : Sg} {Q : Rs → Sg → Prop} : Wx d 109 30 ls st σ Q ↔ Wx d 109 31 ls (vi 1 :: st) σ Q := u_iconst d109_30
theorem d109_31 : decode (mB 109) 31 = .ok (.goto 4, 3) := by decide +kernel
theorem u109_31 {d : Nat} {ls : Lo} {st : List Va} {σ : Sg} {Q : Rs → Sg → Prop} : Wx d 109 31 ls st σ Q ↔ Wx d 109 35 ls st σ Q := u_goto d109_31 (by decide)
theorem d109_34 : decode (mB 109) 34 = .ok (.iconst 0, 1) := by decide +kernel
theorem u109_34 {d : Nat} {ls : Lo} {st : List Va} {σ : Sg} {Q : Rs → Sg → Prop} : Wx d 109 34 ls st σ Q ↔ Wx d 109 35 ls (vi 0 :: st) σ Q := u_iconst d109_34
theorem d109_35 : decode (mB 109) 35 = .ok (.iadd, 1) := by decide +kernel
theorem u109_35 {d : Nat} {ls : Lo} {st : List Va} {σ : Sg} {Q : Rs → Sg → Prop} {a b : Int} : Wx d 109 35 ls (vi b :: vi a :: st) σ Q ↔ Wx d 109 36 ls (vi (a + b) :: st) σ Q := u_iadd d109_35
theorem d109_36 : decode (mB 109) 36 = .ok (.istore_n 3, 1) := by decide +kernel
theorem u109_36 {d : Nat} {ls : Lo} {st : List Va} {σ : Sg} {Q : Rs → Sg → Prop} {z : Int} : Wx d 109 36 ls (vi z :: st) σ Q ↔ Wx d 109 37 (lset ls 3 (vi z)) st σ Q := u_istore_n d109_36 (by decide)
theorem d109_37 : decode (mB 109) 37 = .ok (.iinc 4 1, 3) := by decide +kernel
theorem u109_37 {d : Nat} {ls : Lo} {st : List Va} {σ : Sg} {Q : Rs → Sg → Prop} : Wx d 109 37 ls st σ Q ↔ Li (lget ls 4) (fun z => Wx d 109 40 (lset ls 4 (vi (z + 1))) st σ Q) := u_iinc d109_37 (by decide)
theorem d109_40 : decode (mB 109) 40 = .ok (.goto (-35), 3) := by decide +kernel
theorem u109_40 {d : Nat} {ls : Lo} {st : List Va} {σ : Sg} {Q : Rs → Sg → Prop} : Wx d 109 40 ls st σ Q ↔ Wx d 109 5 ls st σ Q := u_goto d109_40 (by decide)
theorem d109_43 : decode (mB 109) 43 = .ok (.iload_n 3, 1) := by decide +kernel
theorem u109_43 {d : Nat} {ls : Lo} {st : List Va} {σ : Sg} {Q : Rs → Sg → Prop} : Wx d 109 43 ls st σ Q ↔ Li (lget ls 3) (fun z => Wx d 109 44 ls (vi z :: st) σ Q) := u_iload_n d109_43
theorem d109_44 : decode (mB 109) 44 = .ok (.iconst 1, 1) := by decide +kernel
theorem u109_44 {d : Nat} {ls : Lo} {st : List Va} {σ : Sg} {Q : Rs → Sg → Prop} : Wx d 109 44 ls st σ Q ↔ Wx d 109 45 ls (vi 1 :: st) σ Q := u_iconst d109_44
theorem d109_45 : decode (mB 109) 45 = .ok (.if_icmp .le 11, 3) := by decide +kernel
theorem u109_45 {d : Nat} {ls : Lo} {st : List Va} {σ : Sg} {Q : Rs → Sg → Prop} {a b : Int} (h : -2147483648 ≤ a ∧ a ≤ 2147483647) (h2 : -2147483648 ≤ b ∧ b ≤ 2147483647) : Wx d 109 45 ls (vi b :: vi a :: st) σ Q ↔ if a ≤ b then Wx d 109 56 ls st σ Q else Wx d 109 48 ls st σ Q := u_icle d109_45 (by decide) h h2
theorem d109_48 : decode (mB 109) 48 = .ok (.iload_n 3, 1) := by decide +kernel
theorem u109_48 {d : Nat} {ls : Lo} {st : List Va} {σ : Sg} {Q : Rs → Sg → Prop} : Wx d 109 48 ls st σ Q ↔ Li (lget ls 3) (fun z => Wx d 109 49 ls (vi z :: st) σ Q) := u_iload_n d109_48
theorem d109_49 : decode (mB 109) 49 = .ok (.iconst 1, 1) := by decide +kernel
theorem u109_49 {d : Nat} {ls : Lo} {st : List Va} {σ : Sg} {Q : Rs → Sg → Prop} : Wx d 109 49 ls st σ Q ↔ Wx d 109 50 ls (vi 1 :: st) σ Q := u_iconst d109_49
theorem d109_50 : decode (mB 109) 50 = .ok (.isub, 1) := by decide +kernel
theorem u109_50 {d : Nat} {ls : Lo} {st : List Va} {σ : Sg} {Q : Rs → Sg → Prop} {a b : Int} : Wx d 109 50 ls (vi b :: vi a :: st) σ Q ↔ Wx d 109 51 ls (vi (a - b) :: st) σ Q := u_isub d109_50
theorem d109_51 : decode (mB 109) 51 = .ok (.iload_n 2, 1) := by decide +kernel
theorem u109_51 {d : Nat} {ls : Lo} {st : List Va} {σ : Sg} {Q : Rs → Sg → Prop} : Wx d 109 51 ls st σ Q ↔ Li (lget ls 2) (fun z => Wx d 109 52 ls (vi z :: st) σ Q) := u_iload_n d109_51
theorem d109_52 : decode (mB 109) 52 = .ok (.imul, 1) := by decide +kernel
theorem u109_52 {d : Nat} {ls : Lo} {st : List Va} {σ : Sg} {Q : Rs → Sg → Prop} {a b : Int} : Wx d 109 52 ls (vi b :: vi a :: st) σ Q ↔ Wx d 109 53 ls (vi (a * b) :: st) σ Q := u_imul d109_52
theorem d109_53 : decode (mB 109) 53 = .ok (.goto 4, 3) := by decide +kernel
theorem u109_53 {d : Nat} {ls : Lo} {st : List Va} {σ : Sg} {Q : Rs → Sg → Prop} : Wx d 109 53 ls st σ Q ↔ Wx d 109 57 ls st σ Q := u_goto d109_53 (by decide)
theorem d109_56 : decode (mB 109) 56 = .ok (.iconst 0, 1) := by decide +kernel
theorem u109_56 {d : Nat} {ls : Lo} {st : List Va} {σ : Sg} {Q : Rs → Sg → Prop} : Wx d 109 56 ls st σ Q ↔ Wx d 109 57 ls (vi 0 :: st) σ Q := u_iconst d109_56
theorem d109_57 : decode (mB 109) 57 = .ok (.ireturn, 1) := by decide +kernel
theorem u109_57 {d : Nat} {ls : Lo} {σ : Sg} {Q : Rs → Sg → Prop} {z : Int} : Wx d 109 57 ls [vi z] σ Q ↔ Q (.inl (some (vi z))) σ := u_iret d109_57 rfl
/-! 110: FiguredBassModel.fees(I)I -/
theorem d110_0 : decode (mB 110) 0 = .ok (.aload_n 0, 1) := by decide +kernel
theorem u110_0 {d : Nat} {ls : Lo} {st : List Va} {σ : Sg} {Q : Rs → Sg → Prop} : Wx d 110 0 ls st σ Q ↔ Lr (lget ls 0) (fun z => Wx d 110 1 ls (.inr (.inl z) :: st) σ Q) := u_aload_n d110_0
theorem d110_1 : decode (mB 110) 1 = .ok (.aload_n 0, 1) := by decide +kernel
theorem u110_1 {d : Nat} {ls : Lo} {st : List Va} {σ : Sg} {Q : Rs → Sg → Prop} : Wx d 110 1 ls st σ Q ↔ Lr (lget ls 0) (fun z => Wx d 110 2 ls (.inr (.inl z) :: st) σ Q) := u_aload_n d110_1
theorem d110_2 : decode (mB 110) 2 = .ok (.invokevirtual 194, 3) := by decide +kernel
theorem u110_2 {d : Nat} {ls : Lo} {st : List Va} {σ : Sg} {Q : Rs → Sg → Prop} {g j : Nat} : Wx (d + 1) 110 2 ls (vr g j :: st) σ Q ↔ (isO g j 7 ∧ st.length ≤ 4 ∧ nlg [] = true) ∧ Wm d 78 [vr g j] σ (Kc (d + 1) 110 5 ls st Q) := u_inv0 d110_2 rfl rfl rfl
theorem d110_5 : decode (mB 110) 5 = .ok (.bipush 9, 2) := by decide +kernel
theorem u110_5 {d : Nat} {ls : Lo} {st : List Va} {σ : Sg} {Q : Rs → Sg → Prop} : Wx d 110 5 ls st σ Q ↔ Wx d 110 7 ls (vi 9 :: st) σ Q := u_bipush d110_5 (by decide)
theorem d110_7 : decode (mB 110) 7 = .ok (.invokevirtual 211, 3) := by decide +kernel
theorem u110_7 {d : Nat} {ls : Lo} {st : List Va} {σ : Sg} {Q : Rs → Sg → Prop} {g j : Nat} {a1 a2 : Va} : Wx (d + 1) 110 7 ls (a2 :: a1 :: vr g j :: st) σ Q ↔ (isO g j 7 ∧ st.length ≤ 4 ∧ nlg [a2, a1] = true) ∧ Wm d 109 [vr g j, a1, a2] σ (Kc (d + 1) 110 10 ls st Q) := u_inv2 d110_7 rfl rfl rfl
theorem d110_10 : decode (mB 110) 10 = .ok (.aload_n 0, 1) := by decide +kernel
theorem u110_10 {d : Nat} {ls : Lo} {st : List Va} {σ : Sg} {Q : Rs → Sg → Prop} : Wx d 110 10 ls st σ Q ↔ Lr (lget ls 0) (fun z => Wx d 110 11 ls (.inr (.inl z) :: st) σ Q) := u_aload_n d110_10
theorem d110_11 : decode (mB 110) 11 = .ok (.aload_n 0, 1) := by decide +kernel
theorem u110_11 {d : Nat} {ls : Lo} {st : List Va} {σ : Sg} {Q : Rs → Sg → Prop} : Wx d 110 11 ls st σ Q ↔ Lr (lget ls 0) (fun z => Wx d 110 12 ls (.inr (.inl z) :: st) σ Q) := u_aload_n d110_11
theorem d110_12 : decode (mB 110) 12 = .ok (.getfield 59, 3) := by decide +kernel
theorem u110_12 {d : Nat} {ls : Lo} {st : List Va} {σ : Sg} {Q : Rs → Sg → Prop} {g j : Nat} : Wx d 110 12 ls (vr g j :: st) σ Q ↔ isO g j 7 ∧ Wx d 110 15 ls (fvv σ g j 24 :: st) σ Q := u_get (w := (7, 24)) d110_12 rfl
theorem d110_15 : decode (mB 110) 15 = .ok (.iload_n 1, 1) := by decide +kernel
theorem u110_15 {d : Nat} {ls : Lo} {st : List Va} {σ : Sg} {Q : Rs → Sg → Prop} : Wx d 110 15 ls st σ Q ↔ Li (lget ls 1) (fun z => Wx d 110 16 ls (vi z :: st) σ Q) := u_iload_n d110_15
theorem d110_16 : decode (mB 110) 16 = .ok (.iaload, 1) := by decide +kernel
theorem u110_16 {d : Nat} {ls : Lo} {st : List Va} {σ : Sg} {Q : Rs → Sg → Prop} {z : Int} {g j : Nat} : Wx d 110 16 ls (vi z :: vr g j :: st) σ Q ↔ On (ial σ g j z) (fun x => Wx d 110 17 ls (vi x :: st) σ Q) := u_iald d110_16
theorem d110_17 : decode (mB 110) 17 = .ok (.bipush 9, 2) := by decide +kernel
theorem u110_17 {d : Nat} {ls : Lo} {st : List Va} {σ : Sg} {Q : Rs → Sg → Prop} : Wx d 110 17 ls st σ Q ↔ Wx d 110 19 ls (vi 9 :: st) σ Q := u_bipush d110_17 (by decide)
theorem d110_19 : decode (mB 110) 19 = .ok (.invokevirtual 211, 3) := by decide +kernel
theorem u110_19 {d : Nat} {ls : Lo} {st : List Va} {σ : Sg} {Q : Rs → Sg → Prop} {g j : Nat} {a1 a2 : Va} : Wx (d + 1) 110 19 ls (a2 :: a1 :: vr g j :: st) σ Q ↔ (isO g j 7 ∧ st.length ≤ 4 ∧ nlg [a2, a1] = true) ∧ Wm d 109 [vr g j, a1, a2] σ (Kc (d + 1) 110 22 ls st Q) := u_inv2 d110_19 rfl rfl rfl
theorem d110_22 : decode (mB 110) 22 = .ok (.iadd, 1) := by decide +kernel
theorem u110_22 {d : Nat} {ls : Lo} {st : List Va} {σ : Sg} {Q : Rs → Sg → Prop} {a b : Int} : Wx d 110 22 ls (vi b :: vi a :: st) σ Q ↔ Wx d 110 23 ls (vi (a + b) :: st) σ Q := u_iadd d110_22
theorem d110_23 : decode (mB 110) 23 = .ok (.aload_n 0, 1) := by decide +kernel
theorem u110_23 {d : Nat} {ls : Lo} {st : List Va} {σ : Sg} {Q : Rs → Sg → Prop} : Wx d 110 23 ls st σ Q ↔ Lr (lget ls 0) (fun z => Wx d 110 24 ls (.inr (.inl z) :: st) σ Q) := u_aload_n d110_23
theorem d110_24 : decode (mB 110) 24 = .ok (.aload_n 0, 1) := by decide +kernel
theorem u110_24 {d : Nat} {ls : Lo} {st : List Va} {σ : Sg} {Q : Rs → Sg → Prop} : Wx d 110 24 ls st σ Q ↔ Lr (lget ls 0) (fun z => Wx d 110 25 ls (.inr (.inl z) :: st) σ Q) := u_aload_n d110_24
theorem d110_25 : decode (mB 110) 25 = .ok (.getfield 62, 3) := by decide +kernel
theorem u110_25 {d : Nat} {ls : Lo} {st : List Va} {σ : Sg} {Q : Rs → Sg → Prop} {g j : Nat} : Wx d 110 25 ls (vr g j :: st) σ Q ↔ isO g j 7 ∧ Wx d 110 28 ls (fvv σ g j 25 :: st) σ Q := u_get (w := (7, 25)) d110_25 rfl
theorem d110_28 : decode (mB 110) 28 = .ok (.iload_n 1, 1) := by decide +kernel
theorem u110_28 {d : Nat} {ls : Lo} {st : List Va} {σ : Sg} {Q : Rs → Sg → Prop} : Wx d 110 28 ls st σ Q ↔ Li (lget ls 1) (fun z => Wx d 110 29 ls (vi z :: st) σ Q) := u_iload_n d110_28
theorem d110_29 : decode (mB 110) 29 = .ok (.iaload, 1) := by decide +kernel
theorem u110_29 {d : Nat} {ls : Lo} {st : List Va} {σ : Sg} {Q : Rs → Sg → Prop} {z : Int} {g j : Nat} : Wx d 110 29 ls (vi z :: vr g j :: st) σ Q ↔ On (ial σ g j z) (fun x => Wx d 110 30 ls (vi x :: st) σ Q) := u_iald d110_29
theorem d110_30 : decode (mB 110) 30 = .ok (.iconst 3, 1) := by decide +kernel
theorem u110_30 {d : Nat} {ls : Lo} {st : List Va} {σ : Sg} {Q : Rs → Sg → Prop} : Wx d 110 30 ls st σ Q ↔ Wx d 110 31 ls (vi 3 :: st) σ Q := u_iconst d110_30
theorem d110_31 : decode (mB 110) 31 = .ok (.invokevirtual 211, 3) := by decide +kernel
theorem u110_31 {d : Nat} {ls : Lo} {st : List Va} {σ : Sg} {Q : Rs → Sg → Prop} {g j : Nat} {a1 a2 : Va} : Wx (d + 1) 110 31 ls (a2 :: a1 :: vr g j :: st) σ Q ↔ (isO g j 7 ∧ st.length ≤ 4 ∧ nlg [a2, a1] = true) ∧ Wm d 109 [vr g j, a1, a2] σ (Kc (d + 1) 110 34 ls st Q) := u_inv2 d110_31 rfl rfl rfl
theorem d110_34 : decode (mB 110) 34 = .ok (.iadd, 1) := by decide +kernel
theorem u110_34 {d : Nat} {ls : Lo} {st : List Va} {σ : Sg} {Q : Rs → Sg → Prop} {a b : Int} : Wx d 110 34 ls (vi b :: vi a :: st) σ Q ↔ Wx d 110 35 ls (vi (a + b) :: st) σ Q := u_iadd d110_34
theorem d110_35 : decode (mB 110) 35 = .ok (.ireturn, 1) := by decide +kernel
theorem u110_35 {d : Nat} {ls : Lo} {σ : Sg} {Q : Rs → Sg → Prop} {z : Int} : Wx d 110 35 ls [vi z] σ Q ↔ Q (.inl (some (vi z))) σ := u_iret d110_35 rfl
/-! 111: FiguredBassModel.goBack(I)V -/
theorem d111_0 : decode (mB 111) 0 = .ok (.sipush 400, 3) := by decide +kernel
theorem u111_0 {d : Nat} {ls : Lo} {st : List Va} {σ : Sg} {Q : Rs → Sg → Prop} : Wx d 111 0 ls st σ Q ↔ Wx d 111 3 ls (vi 400 :: st) σ Q := u_sipush d111_0 (by decide)
theorem d111_3 : decode (mB 111) 3 = .ok (.iload_n 1, 1) := by decide +kernel
theorem u111_3 {d : Nat} {ls : Lo} {st : List Va} {σ : Sg} {Q : Rs → Sg → Prop} : Wx d 111 3 ls st σ Q ↔ Li (lget ls 1) (fun z => Wx d 111 4 ls (vi z :: st) σ Q) := u_iload_n d111_3
theorem d111_4 : decode (mB 111) 4 = .ok (.imul, 1) := by decide +kernel
theorem u111_4 {d : Nat} {ls : Lo} {st : List Va} {σ : Sg} {Q : Rs → Sg → Prop} {a b : Int} : Wx d 111 4 ls (vi b :: vi a :: st) σ Q ↔ Wx d 111 5 ls (vi (a * b) :: st) σ Q := u_imul d111_4
theorem d111_5 : decode (mB 111) 5 = .ok (.istore_n 2, 1) := by decide +kernel
theorem u111_5 {d : Nat} {ls : Lo} {st : List Va} {σ : Sg} {Q : Rs → Sg → Prop} {z : Int} : Wx d 111 5 ls (vi z :: st) σ Q ↔ Wx d 111 6 (lset ls 2 (vi z)) st σ Q := u_istore_n d111_5 (by decide)
theorem d111_6 : decode (mB 111) 6 = .ok (.iload_n 2, 1) := by decide +kernel
theorem u111_6 {d : Nat} {ls : Lo} {st : List Va} {σ : Sg} {Q : Rs → Sg → Prop} : Wx d 111 6 ls st σ Q ↔ Li (lget ls 2) (fun z => Wx d 111 7 ls (vi z :: st) σ Q) := u_iload_n d111_6
theorem d111_7 : decode (mB 111) 7 = .ok (.sipush 400, 3) := by decide +kernel
theorem u111_7 {d : Nat} {ls : Lo} {st : List Va} {σ : Sg} {Q : Rs → Sg → Prop} : Wx d 111 7 ls st σ Q ↔ Wx d 111 10 ls (vi 400 :: st) σ Q := u_sipush d111_7 (by decide)
theorem d111_10 : decode (mB 111) 10 = .ok (.iload_n 1, 1) := by decide +kernel
theorem u111_10 {d : Nat} {ls : Lo} {st : List Va} {σ : Sg} {Q : Rs → Sg → Prop} : Wx d 111 10 ls st σ Q ↔ Li (lget ls 1) (fun z => Wx d 111 11 ls (vi z :: st) σ Q) := u_iload_n d111_10
theorem d111_11 : decode (mB 111) 11 = .ok (.imul, 1) := by decide +kernel
theorem u111_11 {d : Nat} {ls : Lo} {st : List Va} {σ : Sg} {Q : Rs → Sg → Prop} {a b : Int} : Wx d 111 11 ls (vi b :: vi a :: st) σ Q ↔ Wx d 111 12 ls (vi (a * b) :: st) σ Q := u_imul d111_11
theorem d111_12 : decode (mB 111) 12 = .ok (.aload_n 0, 1) := by decide +kernel
theorem u111_12 {d : Nat} {ls : Lo} {st : List Va} {σ : Sg} {Q : Rs → Sg → Prop} : Wx d 111 12 ls st σ Q ↔ Lr (lget ls 0) (fun z => Wx d 111 13 ls (.inr (.inl z) :: st) σ Q) := u_aload_n d111_12
theorem d111_13 : decode (mB 111) 13 = .ok (.getfield 65, 3) := by decide +kernel
theorem u111_13 {d : Nat} {ls : Lo} {st : List Va} {σ : Sg} {Q : Rs → Sg → Prop} {g j : Nat} : Wx d 111 13 ls (vr g j :: st) σ Q ↔ isO g j 7 ∧ Wx d 111 16 ls (fvv σ g j 26 :: st) σ Q := u_get (w := (7, 26)) d111_13 rfl
theorem d111_16 : decode (mB 111) 16 = .ok (.iload_n 1, 1) := by decide +kernel
theorem u111_16 {d : Nat} {ls : Lo} {st : List Va} {σ : Sg} {Q : Rs → Sg → Prop} : Wx d 111 16 ls st σ Q ↔ Li (lget ls 1) (fun z => Wx d 111 17 ls (vi z :: st) σ Q) := u_iload_n d111_16
theorem d111_17 : decode (mB 111) 17 = .ok (.iaload, 1) := by decide +kernel
theorem u111_17 {d : Nat} {ls : Lo} {st : List Va} {σ : Sg} {Q : Rs → Sg → Prop} {z : Int} {g j : Nat} : Wx d 111 17 ls (vi z :: vr g j :: st) σ Q ↔ On (ial σ g j z) (fun x => Wx d 111 18 ls (vi x :: st) σ Q) := u_iald d111_17
theorem d111_18 : decode (mB 111) 18 = .ok (.iadd, 1) := by decide +kernel
theorem u111_18 {d : Nat} {ls : Lo} {st : List Va} {σ : Sg} {Q : Rs → Sg → Prop} {a b : Int} : Wx d 111 18 ls (vi b :: vi a :: st) σ Q ↔ Wx d 111 19 ls (vi (a + b) :: st) σ Q := u_iadd d111_18
theorem d111_19 : decode (mB 111) 19 = .ok (.if_icmp .ge 171, 3) := by decide +kernel
theorem u111_19 {d : Nat} {ls : Lo} {st : List Va} {σ : Sg} {Q : Rs → Sg → Prop} {a b : Int} (h : -2147483648 ≤ a ∧ a ≤ 2147483647) (h2 : -2147483648 ≤ b ∧ b ≤ 2147483647) : Wx d 111 19 ls (vi b :: vi a :: st) σ Q ↔ if b ≤ a then Wx d 111 190 ls st σ Q else Wx d 111 22 ls st σ Q := u_icge d111_19 (by decide) h h2
theorem d111_22 : decode (mB 111) 22 = .ok (.aload_n 0, 1) := by decide +kernel
theorem u111_22 {d : Nat} {ls : Lo} {st : List Va} {σ : Sg} {Q : Rs → Sg → Prop} : Wx d 111 22 ls st σ Q ↔ Lr (lget ls 0) (fun z => Wx d 111 23 ls (.inr (.inl z) :: st) σ Q) := u_aload_n d111_22
theorem d111_23 : decode (mB 111) 23 = .ok (.iload_n 1, 1) := by decide +kernel
theorem u111_23 {d : Nat} {ls : Lo} {st : List Va} {σ : Sg} {Q : Rs → Sg → Prop} : Wx d 111 23 ls st σ Q ↔ Li (lget ls 1) (fun z => Wx d 111 24 ls (vi z :: st) σ Q) := u_iload_n d111_23
theorem d111_24 : decode (mB 111) 24 = .ok (.iload_n 2, 1) := by decide +kernel
theorem u111_24 {d : Nat} {ls : Lo} {st : List Va} {σ : Sg} {Q : Rs → Sg → Prop} : Wx d 111 24 ls st σ Q ↔ Li (lget ls 2) (fun z => Wx d 111 25 ls (vi z :: st) σ Q) := u_iload_n d111_24
theorem d111_25 : decode (mB 111) 25 = .ok (.invokevirtual 214, 3) := by decide +kernel
theorem u111_25 {d : Nat} {ls : Lo} {st : List Va} {σ : Sg} {Q : Rs → Sg → Prop} {g j : Nat} {a1 a2 : Va} : Wx (d + 1) 111 25 ls (a2 :: a1 :: vr g j :: st) σ Q ↔ (isO g j 7 ∧ st.length ≤ 4 ∧ nlg [a2, a1] = true) ∧ Wm d 105 [vr g j, a1, a2] σ (Kc (d + 1) 111 28 ls st Q) := u_inv2 d111_25 rfl rfl rfl
theorem d111_28 : decode (mB 111) 28 = .ok (.aload_n 0, 1) := by decide +kernel
theorem u111_28 {d : Nat} {ls : Lo} {st : List Va} {σ : Sg} {Q : Rs → Sg → Prop} : Wx d 111 28 ls st σ Q ↔ Lr (lget ls 0) (fun z => Wx d 111 29 ls (.inr (.inl z) :: st) σ Q) := u_aload_n d111_28
theorem d111_29 : decode (mB 111) 29 = .ok (.iload_n 1, 1) := by decide +kernel
theorem u111_29 {d : Nat} {ls : Lo} {st : List Va} {σ : Sg} {Q : Rs → Sg → Prop} : Wx d 111 29 ls st σ Q ↔ Li (lget ls 1) (fun z => Wx d 111 30 ls (vi z :: st) σ Q) := u_iload_n d111_29
theorem d111_30 : decode (mB 111) 30 = .ok (.invokevirtual 217, 3) := by decide +kernel
theorem u111_30 {d : Nat} {ls : Lo} {st : List Va} {σ : Sg} {Q : Rs → Sg → Prop} {g j : Nat} {a1 : Va} : Wx (d + 1) 111 30 ls (a1 :: vr g j :: st) σ Q ↔ (isO g j 7 ∧ st.length ≤ 4 ∧ nlg [a1] = true) ∧ Wm d 110 [vr g j, a1] σ (Kc (d + 1) 111 33 ls st Q) := u_inv1 d111_30 rfl rfl rfl
theorem d111_33 : decode (mB 111) 33 = .ok (.istore_n 3, 1) := by decide +kernel
theorem u111_33 {d : Nat} {ls : Lo} {st : List Va} {σ : Sg} {Q : Rs → Sg → Prop} {z : Int} : Wx d 111 33 ls (vi z :: st) σ Q ↔ Wx d 111 34 (lset ls 3 (vi z)) st σ Q := u_istore_n d111_33 (by decide)
theorem d111_34 : decode (mB 111) 34 = .ok (.iload_n 1, 1) := by decide +kernel
theorem u111_34 {d : Nat} {ls : Lo} {st : List Va} {σ : Sg} {Q : Rs → Sg → Prop} : Wx d 111 34 ls st σ Q ↔ Li (lget ls 1) (fun z => Wx d 111 35 ls (vi z :: st) σ Q) := u_iload_n d111_34
theorem d111_35 : decode (mB 111) 35 = .ok (.aload_n 0, 1) := by decide +kernel
theorem u111_35 {d : Nat} {ls : Lo} {st : List Va} {σ : Sg} {Q : Rs → Sg → Prop} : Wx d 111 35 ls st σ Q ↔ Lr (lget ls 0) (fun z => Wx d 111 36 ls (.inr (.inl z) :: st) σ Q) := u_aload_n d111_35
theorem d111_36 : decode (mB 111) 36 = .ok (.getfield 22, 3) := by decide +kernel
theorem u111_36 {d : Nat} {ls : Lo} {st : List Va} {σ : Sg} {Q : Rs → Sg → Prop} {g j : Nat} : Wx d 111 36 ls (vr g j :: st) σ Q ↔ isO g j 7 ∧ Wx d 111 39 ls (fvv σ g j 7 :: st) σ Q := u_get (w := (7, 7)) d111_36 rfl
theorem d111_39 : decode (mB 111) 39 = .ok (.iconst 1, 1) := by decide +kernel
theorem u111_39 {d : Nat} {ls : Lo} {st : List Va} {σ : Sg} {Q : Rs → Sg → Prop} : Wx d 111 39 ls st σ Q ↔ Wx d 111 40 ls (vi 1 :: st) σ Q := u_iconst d111_39
theorem d111_40 : decode (mB 111) 40 = .ok (.isub, 1) := by decide +kernel
theorem u111_40 {d : Nat} {ls : Lo} {st : List Va} {σ : Sg} {Q : Rs → Sg → Prop} {a b : Int} : Wx d 111 40 ls (vi b :: vi a :: st) σ Q ↔ Wx d 111 41 ls (vi (a - b) :: st) σ Q := u_isub d111_40
theorem d111_41 : decode (mB 111) 41 = .ok (.if_icmp .ne 7, 3) := by decide +kernel
theorem u111_41 {d : Nat} {ls : Lo} {st : List Va} {σ : Sg} {Q : Rs → Sg → Prop} {a b : Int} (h : -2147483648 ≤ a ∧ a ≤ 2147483647) (h2 : -2147483648 ≤ b ∧ b ≤ 2147483647) : Wx d 111 41 ls (vi b :: vi a :: st) σ Q ↔ if ¬ a = b then Wx d 111 48 ls st σ Q else Wx d 111 44 ls st σ Q := u_icne d111_41 (by decide) h h2
theorem d111_44 : decode (mB 111) 44 = .ok (.iconst 0, 1) := by decide +kernel
theorem u111_44 {d : Nat} {ls : Lo} {st : List Va} {σ : Sg} {Q : Rs → Sg → Prop} : Wx d 111 44 ls st σ Q ↔ Wx d 111 45 ls (vi 0 :: st) σ Q := u_iconst d111_44
theorem d111_45 : decode (mB 111) 45 = .ok (.goto 5, 3) := by decide +kernel
theorem u111_45 {d : Nat} {ls : Lo} {st : List Va} {σ : Sg} {Q : Rs → Sg → Prop} : Wx d 111 45 ls st σ Q ↔ Wx d 111 50 ls st σ Q := u_goto d111_45 (by decide)
theorem d111_48 : decode (mB 111) 48 = .ok (.ldc 220, 2) := by decide +kernel
theorem u111_48 {d : Nat} {ls : Lo} {st : List Va} {σ : Sg} {Q : Rs → Sg → Prop} : Wx d 111 48 ls st σ Q ↔ Wx d 111 50 ls (vi 1000000 :: st) σ Q := u_ldc d111_48 rfl
theorem d111_50 : decode (mB 111) 50 = .ok (.istore 4, 2) := by decide +kernel
theorem u111_50 {d : Nat} {ls : Lo} {st : List Va} {σ : Sg} {Q : Rs → Sg → Prop} {z : Int} : Wx d 111 50 ls (vi z :: st) σ Q ↔ Wx d 111 52 (lset ls 4 (vi z)) st σ Q := u_istore d111_50 (by decide)
theorem d111_52 : decode (mB 111) 52 = .ok (.sipush 400, 3) := by decide +kernel
theorem u111_52 {d : Nat} {ls : Lo} {st : List Va} {σ : Sg} {Q : Rs → Sg → Prop} : Wx d 111 52 ls st σ Q ↔ Wx d 111 55 ls (vi 400 :: st) σ Q := u_sipush d111_52 (by decide)
theorem d111_55 : decode (mB 111) 55 = .ok (.iload_n 1, 1) := by decide +kernel
theorem u111_55 {d : Nat} {ls : Lo} {st : List Va} {σ : Sg} {Q : Rs → Sg → Prop} : Wx d 111 55 ls st σ Q ↔ Li (lget ls 1) (fun z => Wx d 111 56 ls (vi z :: st) σ Q) := u_iload_n d111_55
theorem d111_56 : decode (mB 111) 56 = .ok (.imul, 1) := by decide +kernel
theorem u111_56 {d : Nat} {ls : Lo} {st : List Va} {σ : Sg} {Q : Rs → Sg → Prop} {a b : Int} : Wx d 111 56 ls (vi b :: vi a :: st) σ Q ↔ Wx d 111 57 ls (vi (a * b) :: st) σ Q := u_imul d111_56
theorem d111_57 : decode (mB 111) 57 = .ok (.sipush 400, 3) := by decide +kernel
theorem u111_57 {d : Nat} {ls : Lo} {st : List Va} {σ : Sg} {Q : Rs → Sg → Prop} : Wx d 111 57 ls st σ Q ↔ Wx d 111 60 ls (vi 400 :: st) σ Q := u_sipush d111_57 (by decide)
theorem d111_60 : decode (mB 111) 60 = .ok (.iadd, 1) := by decide +kernel
theorem u111_60 {d : Nat} {ls : Lo} {st : List Va} {σ : Sg} {Q : Rs → Sg → Prop} {a b : Int} : Wx d 111 60 ls (vi b :: vi a :: st) σ Q ↔ Wx d 111 61 ls (vi (a + b) :: st) σ Q := u_iadd d111_60
theorem d111_61 : decode (mB 111) 61 = .ok (.istore 5, 2) := by decide +kernel
theorem u111_61 {d : Nat} {ls : Lo} {st : List Va} {σ : Sg} {Q : Rs → Sg → Prop} {z : Int} : Wx d 111 61 ls (vi z :: st) σ Q ↔ Wx d 111 63 (lset ls 5 (vi z)) st σ Q := u_istore d111_61 (by decide)
theorem d111_63 : decode (mB 111) 63 = .ok (.iload_n 1, 1) := by decide +kernel
theorem u111_63 {d : Nat} {ls : Lo} {st : List Va} {σ : Sg} {Q : Rs → Sg → Prop} : Wx d 111 63 ls st σ Q ↔ Li (lget ls 1) (fun z => Wx d 111 64 ls (vi z :: st) σ Q) := u_iload_n d111_63
theorem d111_64 : decode (mB 111) 64 = .ok (.aload_n 0, 1) := by decide +kernel
theorem u111_64 {d : Nat} {ls : Lo} {st : List Va} {σ : Sg} {Q : Rs → Sg → Prop} : Wx d 111 64 ls st σ Q ↔ Lr (lget ls 0) (fun z => Wx d 111 65 ls (.inr (.inl z) :: st) σ Q) := u_aload_n d111_64
theorem d111_65 : decode (mB 111) 65 = .ok (.getfield 22, 3) := by decide +kernel
theorem u111_65 {d : Nat} {ls : Lo} {st : List Va} {σ : Sg} {Q : Rs → Sg → Prop} {g j : Nat} : Wx d 111 65 ls (vr g j :: st) σ Q ↔ isO g j 7 ∧ Wx d 111 68 ls (fvv σ g j 7 :: st) σ Q := u_get (w := (7, 7)) d111_65 rfl
theorem d111_68 : decode (mB 111) 68 = .ok (.iconst 1, 1) := by decide +kernel
theorem u111_68 {d : Nat} {ls : Lo} {st : List Va} {σ : Sg} {Q : Rs → Sg → Prop} : Wx d 111 68 ls st σ Q ↔ Wx d 111 69 ls (vi 1 :: st) σ Q := u_iconst d111_68
theorem d111_69 : decode (mB 111) 69 = .ok (.isub, 1) := by decide +kernel
theorem u111_69 {d : Nat} {ls : Lo} {st : List Va} {σ : Sg} {Q : Rs → Sg → Prop} {a b : Int} : Wx d 111 69 ls (vi b :: vi a :: st) σ Q ↔ Wx d 111 70 ls (vi (a - b) :: st) σ Q := u_isub d111_69
theorem d111_70 : decode (mB 111) 70 = .ok (.if_icmp .ge 92, 3) := by decide +kernel
theorem u111_70 {d : Nat} {ls : Lo} {st : List Va} {σ : Sg} {Q : Rs → Sg → Prop} {a b : Int} (h : -2147483648 ≤ a ∧ a ≤ 2147483647) (h2 : -2147483648 ≤ b ∧ b ≤ 2147483647) : Wx d 111 70 ls (vi b :: vi a :: st) σ Q ↔ if b ≤ a then Wx d 111 162 ls st σ Q else Wx d 111 73 ls st σ Q := u_icge d111_70 (by decide) h h2
theorem d111_73 : decode (mB 111) 73 = .ok (.iload 5, 2) := by decide +kernel
theorem u111_73 {d : Nat} {ls : Lo} {st : List Va} {σ : Sg} {Q : Rs → Sg → Prop} : Wx d 111 73 ls st σ Q ↔ Li (lget ls 5) (fun z => Wx d 111 75 ls (vi z :: st) σ Q) := u_iload d111_73
theorem d111_75 : decode (mB 111) 75 = .ok (.sipush 400, 3) := by decide +kernel
theorem u111_75 {d : Nat} {ls : Lo} {st : List Va} {σ : Sg} {Q : Rs → Sg → Prop} : Wx d 111 75 ls st σ Q ↔ Wx d 111 78 ls (vi 400 :: st) σ Q := u_sipush d111_75 (by decide)
theorem d111_78 : decode (mB 111) 78 = .ok (.iload_n 1, 1) := by decide +kernel
theorem u111_78 {d : Nat} {ls : Lo} {st : List Va} {σ : Sg} {Q : Rs → Sg → Prop} : Wx d 111 78 ls st σ Q ↔ Li (lget ls 1) (fun z => Wx d 111 79 ls (vi z :: st) σ Q) := u_iload_n d111_78
theorem d111_79 : decode (mB 111) 79 = .ok (.imul, 1) := by decide +kernel
theorem u111_79 {d : Nat} {ls : Lo} {st : List Va} {σ : Sg} {Q : Rs → Sg → Prop} {a b : Int} : Wx d 111 79 ls (vi b :: vi a :: st) σ Q ↔ Wx d 111 80 ls (vi (a * b) :: st) σ Q := u_imul d111_79
theorem d111_80 : decode (mB 111) 80 = .ok (.sipush 400, 3) := by decide +kernel
theorem u111_80 {d : Nat} {ls : Lo} {st : List Va} {σ : Sg} {Q : Rs → Sg → Prop} : Wx d 111 80 ls st σ Q ↔ Wx d 111 83 ls (vi 400 :: st) σ Q := u_sipush d111_80 (by decide)
theorem d111_83 : decode (mB 111) 83 = .ok (.iadd, 1) := by decide +kernel
theorem u111_83 {d : Nat} {ls : Lo} {st : List Va} {σ : Sg} {Q : Rs → Sg → Prop} {a b : Int} : Wx d 111 83 ls (vi b :: vi a :: st) σ Q ↔ Wx d 111 84 ls (vi (a + b) :: st) σ Q := u_iadd d111_83
theorem d111_84 : decode (mB 111) 84 = .ok (.aload_n 0, 1) := by decide +kernel
theorem u111_84 {d : Nat} {ls : Lo} {st : List Va} {σ : Sg} {Q : Rs → Sg → Prop} : Wx d 111 84 ls st σ Q ↔ Lr (lget ls 0) (fun z => Wx d 111 85 ls (.inr (.inl z) :: st) σ Q) := u_aload_n d111_84
theorem d111_85 : decode (mB 111) 85 = .ok (.getfield 65, 3) := by decide +kernel
theorem u111_85 {d : Nat} {ls : Lo} {st : List Va} {σ : Sg} {Q : Rs → Sg → Prop} {g j : Nat} : Wx d 111 85 ls (vr g j :: st) σ Q ↔ isO g j 7 ∧ Wx d 111 88 ls (fvv σ g j 26 :: st) σ Q := u_get (w := (7, 26)) d111_85 rfl
theorem d111_88 : decode (mB 111) 88 = .ok (.iload_n 1, 1) := by decide +kernel
theorem u111_88 {d : Nat} {ls : Lo} {st : List Va} {σ : Sg} {Q : Rs → Sg → Prop} : Wx d 111 88 ls st σ Q ↔ Li (lget ls 1) (fun z => Wx d 111 89 ls (vi z :: st) σ Q) := u_iload_n d111_88
theorem d111_89 : decode (mB 111) 89 = .ok (.iconst 1, 1) := by decide +kernel
theorem u111_89 {d : Nat} {ls : Lo} {st : List Va} {σ : Sg} {Q : Rs → Sg → Prop} : Wx d 111 89 ls st σ Q ↔ Wx d 111 90 ls (vi 1 :: st) σ Q := u_iconst d111_89
theorem d111_90 : decode (mB 111) 90 = .ok (.iadd, 1) := by decide +kernel
theorem u111_90 {d : Nat} {ls : Lo} {st : List Va} {σ : Sg} {Q : Rs → Sg → Prop} {a b : Int} : Wx d 111 90 ls (vi b :: vi a :: st) σ Q ↔ Wx d 111 91 ls (vi (a + b) :: st) σ Q := u_iadd d111_90
theorem d111_91 : decode (mB 111) 91 = .ok (.iaload, 1) := by decide +kernel
theorem u111_91 {d : Nat} {ls : Lo} {st : List Va} {σ : Sg} {Q : Rs → Sg → Prop} {z : Int} {g j : Nat} : Wx d 111 91 ls (vi z :: vr g j :: st) σ Q ↔ On (ial σ g j z) (fun x => Wx d 111 92 ls (vi x :: st) σ Q) := u_iald d111_91
theorem d111_92 : decode (mB 111) 92 = .ok (.iadd, 1) := by decide +kernel
theorem u111_92 {d : Nat} {ls : Lo} {st : List Va} {σ : Sg} {Q : Rs → Sg → Prop} {a b : Int} : Wx d 111 92 ls (vi b :: vi a :: st) σ Q ↔ Wx d 111 93 ls (vi (a + b) :: st) σ Q := u_iadd d111_92
theorem d111_93 : decode (mB 111) 93 = .ok (.if_icmp .ge 69, 3) := by decide +kernel
theorem u111_93 {d : Nat} {ls : Lo} {st : List Va} {σ : Sg} {Q : Rs → Sg → Prop} {a b : Int} (h : -2147483648 ≤ a ∧ a ≤ 2147483647) (h2 : -2147483648 ≤ b ∧ b ≤ 2147483647) : Wx d 111 93 ls (vi b :: vi a :: st) σ Q ↔ if b ≤ a then Wx d 111 162 ls st σ Q else Wx d 111 96 ls st σ Q := u_icge d111_93 (by decide) h h2
theorem d111_96 : decode (mB 111) 96 = .ok (.aload_n 0, 1) := by decide +kernel
theorem u111_96 {d : Nat} {ls : Lo} {st : List Va} {σ : Sg} {Q : Rs → Sg → Prop} : Wx d 111 96 ls st σ Q ↔ Lr (lget ls 0) (fun z => Wx d 111 97 ls (.inr (.inl z) :: st) σ Q) := u_aload_n d111_96
theorem d111_97 : decode (mB 111) 97 = .ok (.iload_n 1, 1) := by decide +kernel
theorem u111_97 {d : Nat} {ls : Lo} {st : List Va} {σ : Sg} {Q : Rs → Sg → Prop} : Wx d 111 97 ls st σ Q ↔ Li (lget ls 1) (fun z => Wx d 111 98 ls (vi z :: st) σ Q) := u_iload_n d111_97
theorem d111_98 : decode (mB 111) 98 = .ok (.iconst 1, 1) := by decide +kernel
theorem u111_98 {d : Nat} {ls : Lo} {st : List Va} {σ : Sg} {Q : Rs → Sg → Prop} : Wx d 111 98 ls st σ Q ↔ Wx d 111 99 ls (vi 1 :: st) σ Q := u_iconst d111_98
theorem d111_99 : decode (mB 111) 99 = .ok (.iadd, 1) := by decide +kernel
theorem u111_99 {d : Nat} {ls : Lo} {st : List Va} {σ : Sg} {Q : Rs → Sg → Prop} {a b : Int} : Wx d 111 99 ls (vi b :: vi a :: st) σ Q ↔ Wx d 111 100 ls (vi (a + b) :: st) σ Q := u_iadd d111_99
theorem d111_100 : decode (mB 111) 100 = .ok (.iload 5, 2) := by decide +kernel
theorem u111_100 {d : Nat} {ls : Lo} {st : List Va} {σ : Sg} {Q : Rs → Sg → Prop} : Wx d 111 100 ls st σ Q ↔ Li (lget ls 5) (fun z => Wx d 111 102 ls (vi z :: st) σ Q) := u_iload d111_100
theorem d111_102 : decode (mB 111) 102 = .ok (.invokevirtual 221, 3) := by decide +kernel
theorem u111_102 {d : Nat} {ls : Lo} {st : List Va} {σ : Sg} {Q : Rs → Sg → Prop} {g j : Nat} {a1 a2 : Va} : Wx (d + 1) 111 102 ls (a2 :: a1 :: vr g j :: st) σ Q ↔ (isO g j 7 ∧ st.length ≤ 4 ∧ nlg [a2, a1] = true) ∧ Wm d 106 [vr g j, a1, a2] σ (Kc (d + 1) 111 105 ls st Q) := u_inv2 d111_102 rfl rfl rfl
theorem d111_105 : decode (mB 111) 105 = .ok (.aload_n 0, 1) := by decide +kernel
theorem u111_105 {d : Nat} {ls : Lo} {st : List Va} {σ : Sg} {Q : Rs → Sg → Prop} : Wx d 111 105 ls st σ Q ↔ Lr (lget ls 0) (fun z => Wx d 111 106 ls (.inr (.inl z) :: st) σ Q) := u_aload_n d111_105
theorem d111_106 : decode (mB 111) 106 = .ok (.iconst 0, 1) := by decide +kernel
theorem u111_106 {d : Nat} {ls : Lo} {st : List Va} {σ : Sg} {Q : Rs → Sg → Prop} : Wx d 111 106 ls st σ Q ↔ Wx d 111 107 ls (vi 0 :: st) σ Q := u_iconst d111_106
theorem d111_107 : decode (mB 111) 107 = .ok (.invokevirtual 224, 3) := by decide +kernel
theorem u111_107 {d : Nat} {ls : Lo} {st : List Va} {σ : Sg} {Q : Rs → Sg → Prop} {g j : Nat} {a1 : Va} : Wx (d + 1) 111 107 ls (a1 :: vr g j :: st) σ Q ↔ (isO g j 7 ∧ st.length ≤ 4 ∧ nlg [a1] = true) ∧ Wm d 108 [vr g j, a1] σ (Kc (d + 1) 111 110 ls st Q) := u_inv1 d111_107 rfl rfl rfl
theorem d111_110 : decode (mB 111) 110 = .ok (.aload_n 0, 1) := by decide +kernel
theorem u111_110 {d : Nat} {ls : Lo} {st : List Va} {σ : Sg} {Q : Rs → Sg → Prop} : Wx d 111 110 ls st σ Q ↔ Lr (lget ls 0) (fun z => Wx d 111 111 ls (.inr (.inl z) :: st) σ Q) := u_aload_n d111_110
theorem d111_111 : decode (mB 111) 111 = .ok (.iconst 1, 1) := by decide +kernel
theorem u111_111 {d : Nat} {ls : Lo} {st : List Va} {σ : Sg} {Q : Rs → Sg → Prop} : Wx d 111 111 ls st σ Q ↔ Wx d 111 112 ls (vi 1 :: st) σ Q := u_iconst d111_111
theorem d111_112 : decode (mB 111) 112 = .ok (.invokevirtual 224, 3) := by decide +kernel
theorem u111_112 {d : Nat} {ls : Lo} {st : List Va} {σ : Sg} {Q : Rs → Sg → Prop} {g j : Nat} {a1 : Va} : Wx (d + 1) 111 112 ls (a1 :: vr g j :: st) σ Q ↔ (isO g j 7 ∧ st.length ≤ 4 ∧ nlg [a1] = true) ∧ Wm d 108 [vr g j, a1] σ (Kc (d + 1) 111 115 ls st Q) := u_inv1 d111_112 rfl rfl rfl
theorem d111_115 : decode (mB 111) 115 = .ok (.iadd, 1) := by decide +kernel
theorem u111_115 {d : Nat} {ls : Lo} {st : List Va} {σ : Sg} {Q : Rs → Sg → Prop} {a b : Int} : Wx d 111 115 ls (vi b :: vi a :: st) σ Q ↔ Wx d 111 116 ls (vi (a + b) :: st) σ Q := u_iadd d111_115
theorem d111_116 : decode (mB 111) 116 = .ok (.aload_n 0, 1) := by decide +kernel
theorem u111_116 {d : Nat} {ls : Lo} {st : List Va} {σ : Sg} {Q : Rs → Sg → Prop} : Wx d 111 116 ls st σ Q ↔ Lr (lget ls 0) (fun z => Wx d 111 117 ls (.inr (.inl z) :: st) σ Q) := u_aload_n d111_116
theorem d111_117 : decode (mB 111) 117 = .ok (.iconst 2, 1) := by decide +kernel
theorem u111_117 {d : Nat} {ls : Lo} {st : List Va} {σ : Sg} {Q : Rs → Sg → Prop} : Wx d 111 117 ls st σ Q ↔ Wx d 111 118 ls (vi 2 :: st) σ Q := u_iconst d111_117
theorem d111_118 : decode (mB 111) 118 = .ok (.invokevirtual 224, 3) := by decide +kernel
theorem u111_118 {d : Nat} {ls : Lo} {st : List Va} {σ : Sg} {Q : Rs → Sg → Prop} {g j : Nat} {a1 : Va} : Wx (d + 1) 111 118 ls (a1 :: vr g j :: st) σ Q ↔ (isO g j 7 ∧ st.length ≤ 4 ∧ nlg [a1] = true) ∧ Wm d 108 [vr g j, a1] σ (Kc (d + 1) 111 121 ls st Q) := u_inv1 d111_118 rfl rfl rfl
theorem d111_121 : decode (mB 111) 121 = .ok (.iadd, 1) := by decide +kernel
theorem u111_121 {d : Nat} {ls : Lo} {st : List Va} {σ : Sg} {Q : Rs → Sg → Prop} {a b : Int} : Wx d 111 121 ls (vi b :: vi a :: st) σ Q ↔ Wx d 111 122 ls (vi (a + b) :: st) σ Q := u_iadd d111_121
theorem d111_122 : decode (mB 111) 122 = .ok (.aload_n 0, 1) := by decide +kernel
theorem u111_122 {d : Nat} {ls : Lo} {st : List Va} {σ : Sg} {Q : Rs → Sg → Prop} : Wx d 111 122 ls st σ Q ↔ Lr (lget ls 0) (fun z => Wx d 111 123 ls (.inr (.inl z) :: st) σ Q) := u_aload_n d111_122
theorem d111_123 : decode (mB 111) 123 = .ok (.getfield 77, 3) := by decide +kernel
theorem u111_123 {d : Nat} {ls : Lo} {st : List Va} {σ : Sg} {Q : Rs → Sg → Prop} {g j : Nat} : Wx d 111 123 ls (vr g j :: st) σ Q ↔ isO g j 7 ∧ Wx d 111 126 ls (fvv σ g j 30 :: st) σ Q := u_get (w := (7, 30)) d111_123 rfl
theorem d111_126 : decode (mB 111) 126 = .ok (.iload 5, 2) := by decide +kernel
theorem u111_126 {d : Nat} {ls : Lo} {st : List Va} {σ : Sg} {Q : Rs → Sg → Prop} : Wx d 111 126 ls st σ Q ↔ Li (lget ls 5) (fun z => Wx d 111 128 ls (vi z :: st) σ Q) := u_iload d111_126
theorem d111_128 : decode (mB 111) 128 = .ok (.iaload, 1) := by decide +kernel
theorem u111_128 {d : Nat} {ls : Lo} {st : List Va} {σ : Sg} {Q : Rs → Sg → Prop} {z : Int} {g j : Nat} : Wx d 111 128 ls (vi z :: vr g j :: st) σ Q ↔ On (ial σ g j z) (fun x => Wx d 111 129 ls (vi x :: st) σ Q) := u_iald d111_128
theorem d111_129 : decode (mB 111) 129 = .ok (.iadd, 1) := by decide +kernel
theorem u111_129 {d : Nat} {ls : Lo} {st : List Va} {σ : Sg} {Q : Rs → Sg → Prop} {a b : Int} : Wx d 111 129 ls (vi b :: vi a :: st) σ Q ↔ Wx d 111 130 ls (vi (a + b) :: st) σ Q := u_iadd d111_129
theorem d111_130 : decode (mB 111) 130 = .ok (.istore 6, 2) := by decide +kernel
theorem u111_130 {d : Nat} {ls : Lo} {st : List Va} {σ : Sg} {Q : Rs → Sg → Prop} {z : Int} : Wx d 111 130 ls (vi z :: st) σ Q ↔ Wx d 111 132 (lset ls 6 (vi z)) st σ Q := u_istore d111_130 (by decide)
theorem d111_132 : decode (mB 111) 132 = .ok (.iload 6, 2) := by decide +kernel
theorem u111_132 {d : Nat} {ls : Lo} {st : List Va} {σ : Sg} {Q : Rs → Sg → Prop} : Wx d 111 132 ls st σ Q ↔ Li (lget ls 6) (fun z => Wx d 111 134 ls (vi z :: st) σ Q) := u_iload d111_132
theorem d111_134 : decode (mB 111) 134 = .ok (.iload 4, 2) := by decide +kernel
theorem u111_134 {d : Nat} {ls : Lo} {st : List Va} {σ : Sg} {Q : Rs → Sg → Prop} : Wx d 111 134 ls st σ Q ↔ Li (lget ls 4) (fun z => Wx d 111 136 ls (vi z :: st) σ Q) := u_iload d111_134
theorem d111_136 : decode (mB 111) 136 = .ok (.if_icmp .ge 16, 3) := by decide +kernel
theorem u111_136 {d : Nat} {ls : Lo} {st : List Va} {σ : Sg} {Q : Rs → Sg → Prop} {a b : Int} (h : -2147483648 ≤ a ∧ a ≤ 2147483647) (h2 : -2147483648 ≤ b ∧ b ≤ 2147483647) : Wx d 111 136 ls (vi b :: vi a :: st) σ Q ↔ if b ≤ a then Wx d 111 152 ls st σ Q else Wx d 111 139 ls st σ Q := u_icge d111_136 (by decide) h h2
theorem d111_139 : decode (mB 111) 139 = .ok (.aload_n 0, 1) := by decide +kernel
theorem u111_139 {d : Nat} {ls : Lo} {st : List Va} {σ : Sg} {Q : Rs → Sg → Prop} : Wx d 111 139 ls st σ Q ↔ Lr (lget ls 0) (fun z => Wx d 111 140 ls (.inr (.inl z) :: st) σ Q) := u_aload_n d111_139
theorem d111_140 : decode (mB 111) 140 = .ok (.iload_n 1, 1) := by decide +kernel
theorem u111_140 {d : Nat} {ls : Lo} {st : List Va} {σ : Sg} {Q : Rs → Sg → Prop} : Wx d 111 140 ls st σ Q ↔ Li (lget ls 1) (fun z => Wx d 111 141 ls (vi z :: st) σ Q) := u_iload_n d111_140
theorem d111_141 : decode (mB 111) 141 = .ok (.invokevirtual 227, 3) := by decide +kernel
theorem u111_141 {d : Nat} {ls : Lo} {st : List Va} {σ : Sg} {Q : Rs → Sg → Prop} {g j : Nat} {a1 : Va} : Wx (d + 1) 111 141 ls (a1 :: vr g j :: st) σ Q ↔ (isO g j 7 ∧ st.length ≤ 4 ∧ nlg [a1] = true) ∧ Wm d 107 [vr g j, a1] σ (Kc (d + 1) 111 144 ls st Q) := u_inv1 d111_141 rfl rfl rfl
theorem d111_144 : decode (mB 111) 144 = .ok (.ifCond .eq 8, 3) := by decide +kernel
theorem u111_144 {d : Nat} {ls : Lo} {st : List Va} {σ : Sg} {Q : Rs → Sg → Prop} {a : Int} (h : -2147483648 ≤ a ∧ a ≤ 2147483647) : Wx d 111 144 ls (vi a :: st) σ Q ↔ if a = 0 then Wx d 111 152 ls st σ Q else Wx d 111 147 ls st σ Q := u_ifeq d111_144 (by decide) h
theorem d111_147 : decode (mB 111) 147 = .ok (.iload 6, 2) := by decide +kernel
theorem u111_147 {d : Nat} {ls : Lo} {st : List Va} {σ : Sg} {Q : Rs → Sg → Prop} : Wx d 111 147 ls st σ Q ↔ Li (lget ls 6) (fun z => Wx d 111 149 ls (vi z :: st) σ Q) := u_iload d111_147
theorem d111_149 : decode (mB 111) 149 = .ok (.goto 5, 3) := by decide +kernel
theorem u111_149 {d : Nat} {ls : Lo} {st : List Va} {σ : Sg} {Q : Rs → Sg → Prop} : Wx d 111 149 ls st σ Q ↔ Wx d 111 154 ls st σ Q := u_goto d111_149 (by decide)
theorem d111_152 : decode (mB 111) 152 = .ok (.iload 4, 2) := by decide +kernel
theorem u111_152 {d : Nat} {ls : Lo} {st : List Va} {σ : Sg} {Q : Rs → Sg → Prop} : Wx d 111 152 ls st σ Q ↔ Li (lget ls 4) (fun z => Wx d 111 154 ls (vi z :: st) σ Q) := u_iload d111_152
theorem d111_154 : decode (mB 111) 154 = .ok (.istore 4, 2) := by decide +kernel
theorem u111_154 {d : Nat} {ls : Lo} {st : List Va} {σ : Sg} {Q : Rs → Sg → Prop} {z : Int} : Wx d 111 154 ls (vi z :: st) σ Q ↔ Wx d 111 156 (lset ls 4 (vi z)) st σ Q := u_istore d111_154 (by decide)
theorem d111_156 : decode (mB 111) 156 = .ok (.iinc 5 1, 3) := by decide +kernel
theorem u111_156 {d : Nat} {ls : Lo} {st : List Va} {σ : Sg} {Q : Rs → Sg → Prop} : Wx d 111 156 ls st σ Q ↔ Li (lget ls 5) (fun z => Wx d 111 159 (lset ls 5 (vi (z + 1))) st σ Q) := u_iinc d111_156 (by decide)
theorem d111_159 : decode (mB 111) 159 = .ok (.goto (-96), 3) := by decide +kernel
theorem u111_159 {d : Nat} {ls : Lo} {st : List Va} {σ : Sg} {Q : Rs → Sg → Prop} : Wx d 111 159 ls st σ Q ↔ Wx d 111 63 ls st σ Q := u_goto d111_159 (by decide)
theorem d111_162 : decode (mB 111) 162 = .ok (.aload_n 0, 1) := by decide +kernel
theorem u111_162 {d : Nat} {ls : Lo} {st : List Va} {σ : Sg} {Q : Rs → Sg → Prop} : Wx d 111 162 ls st σ Q ↔ Lr (lget ls 0) (fun z => Wx d 111 163 ls (.inr (.inl z) :: st) σ Q) := u_aload_n d111_162
theorem d111_163 : decode (mB 111) 163 = .ok (.getfield 77, 3) := by decide +kernel
theorem u111_163 {d : Nat} {ls : Lo} {st : List Va} {σ : Sg} {Q : Rs → Sg → Prop} {g j : Nat} : Wx d 111 163 ls (vr g j :: st) σ Q ↔ isO g j 7 ∧ Wx d 111 166 ls (fvv σ g j 30 :: st) σ Q := u_get (w := (7, 30)) d111_163 rfl
theorem d111_166 : decode (mB 111) 166 = .ok (.iload_n 2, 1) := by decide +kernel
theorem u111_166 {d : Nat} {ls : Lo} {st : List Va} {σ : Sg} {Q : Rs → Sg → Prop} : Wx d 111 166 ls st σ Q ↔ Li (lget ls 2) (fun z => Wx d 111 167 ls (vi z :: st) σ Q) := u_iload_n d111_166
theorem d111_167 : decode (mB 111) 167 = .ok (.iload 4, 2) := by decide +kernel
theorem u111_167 {d : Nat} {ls : Lo} {st : List Va} {σ : Sg} {Q : Rs → Sg → Prop} : Wx d 111 167 ls st σ Q ↔ Li (lget ls 4) (fun z => Wx d 111 169 ls (vi z :: st) σ Q) := u_iload d111_167
theorem d111_169 : decode (mB 111) 169 = .ok (.ldc 220, 2) := by decide +kernel
theorem u111_169 {d : Nat} {ls : Lo} {st : List Va} {σ : Sg} {Q : Rs → Sg → Prop} : Wx d 111 169 ls st σ Q ↔ Wx d 111 171 ls (vi 1000000 :: st) σ Q := u_ldc d111_169 rfl
theorem d111_171 : decode (mB 111) 171 = .ok (.if_icmp .ge 10, 3) := by decide +kernel
theorem u111_171 {d : Nat} {ls : Lo} {st : List Va} {σ : Sg} {Q : Rs → Sg → Prop} {a b : Int} (h : -2147483648 ≤ a ∧ a ≤ 2147483647) (h2 : -2147483648 ≤ b ∧ b ≤ 2147483647) : Wx d 111 171 ls (vi b :: vi a :: st) σ Q ↔ if b ≤ a then Wx d 111 181 ls st σ Q else Wx d 111 174 ls st σ Q := u_icge d111_171 (by decide) h h2
theorem d111_174 : decode (mB 111) 174 = .ok (.iload 4, 2) := by decide +kernel
theorem u111_174 {d : Nat} {ls : Lo} {st : List Va} {σ : Sg} {Q : Rs → Sg → Prop} : Wx d 111 174 ls st σ Q ↔ Li (lget ls 4) (fun z => Wx d 111 176 ls (vi z :: st) σ Q) := u_iload d111_174
theorem d111_176 : decode (mB 111) 176 = .ok (.iload_n 3, 1) := by decide +kernel
theorem u111_176 {d : Nat} {ls : Lo} {st : List Va} {σ : Sg} {Q : Rs → Sg → Prop} : Wx d 111 176 ls st σ Q ↔ Li (lget ls 3) (fun z => Wx d 111 177 ls (vi z :: st) σ Q) := u_iload_n d111_176
theorem d111_177 : decode (mB 111) 177 = .ok (.iadd, 1) := by decide +kernel
theorem u111_177 {d : Nat} {ls : Lo} {st : List Va} {σ : Sg} {Q : Rs → Sg → Prop} {a b : Int} : Wx d 111 177 ls (vi b :: vi a :: st) σ Q ↔ Wx d 111 178 ls (vi (a + b) :: st) σ Q := u_iadd d111_177
theorem d111_178 : decode (mB 111) 178 = .ok (.goto 5, 3) := by decide +kernel
theorem u111_178 {d : Nat} {ls : Lo} {st : List Va} {σ : Sg} {Q : Rs → Sg → Prop} : Wx d 111 178 ls st σ Q ↔ Wx d 111 183 ls st σ Q := u_goto d111_178 (by decide)
theorem d111_181 : decode (mB 111) 181 = .ok (.ldc 220, 2) := by decide +kernel
theorem u111_181 {d : Nat} {ls : Lo} {st : List Va} {σ : Sg} {Q : Rs → Sg → Prop} : Wx d 111 181 ls st σ Q ↔ Wx d 111 183 ls (vi 1000000 :: st) σ Q := u_ldc d111_181 rfl
theorem d111_183 : decode (mB 111) 183 = .ok (.iastore, 1) := by decide +kernel
theorem u111_183 {d : Nat} {ls : Lo} {st : List Va} {σ : Sg} {Q : Rs → Sg → Prop} {x z : Int} {g j : Nat} : Wx d 111 183 ls (vi x :: vi z :: vr g j :: st) σ Q ↔ isA g j 0 z ∧ Wx d 111 184 ls st (up σ g j z.toNat x) Q := u_iast d111_183
theorem d111_184 : decode (mB 111) 184 = .ok (.iinc 2 1, 3) := by decide +kernel
theorem u111_184 {d : Nat} {ls : Lo} {st : List Va} {σ : Sg} {Q : Rs → Sg → Prop} : Wx d 111 184 ls st σ Q ↔ Li (lget ls 2) (fun z => Wx d 111 187 (lset ls 2 (vi (z + 1))) st σ Q) := u_iinc d111_184 (by decide)
theorem d111_187 : decode (mB 111) 187 = .ok (.goto (-181), 3) := by decide +kernel
theorem u111_187 {d : Nat} {ls : Lo} {st : List Va} {σ : Sg} {Q : Rs → Sg → Prop} : Wx d 111 187 ls st σ Q ↔ Wx d 111 6 ls st σ Q := u_goto d111_187 (by decide)
theorem d111_190 : decode (mB 111) 190 = .ok (.return_, 1) := by decide +kernel
theorem u111_190 {d : Nat} {ls : Lo} {σ : Sg} {Q : Rs → Sg → Prop} : Wx d 111 190 ls [] σ Q ↔ Q (.inl none) σ := u_vret d111_190 rfl
/-! 112: FiguredBassModel.goForth(I)V -/
theorem d112_0 : decode (mB 112) 0 = .ok (.sipush 400, 3) := by decide +kernel
theorem u112_0 {d : Nat} {ls : Lo} {st : List Va} {σ : Sg} {Q : Rs → Sg → Prop} : Wx d 112 0 ls st σ Q ↔ Wx d 112 3 ls (vi 400 :: st) σ Q := u_sipush d112_0 (by decide)
theorem d112_3 : decode (mB 112) 3 = .ok (.iload_n 1, 1) := by decide +kernel
theorem u112_3 {d : Nat} {ls : Lo} {st : List Va} {σ : Sg} {Q : Rs → Sg → Prop} : Wx d 112 3 ls st σ Q ↔ Li (lget ls 1) (fun z => Wx d 112 4 ls (vi z :: st) σ Q) := u_iload_n d112_3
theorem d112_4 : decode (mB 112) 4 = .ok (.imul, 1) := by decide +kernel
theorem u112_4 {d : Nat} {ls : Lo} {st : List Va} {σ : Sg} {Q : Rs → Sg → Prop} {a b : Int} : Wx d 112 4 ls (vi b :: vi a :: st) σ Q ↔ Wx d 112 5 ls (vi (a * b) :: st) σ Q := u_imul d112_4
theorem d112_5 : decode (mB 112) 5 = .ok (.istore_n 2, 1) := by decide +kernel
theorem u112_5 {d : Nat} {ls : Lo} {st : List Va} {σ : Sg} {Q : Rs → Sg → Prop} {z : Int} : Wx d 112 5 ls (vi z :: st) σ Q ↔ Wx d 112 6 (lset ls 2 (vi z)) st σ Q := u_istore_n d112_5 (by decide)
theorem d112_6 : decode (mB 112) 6 = .ok (.iload_n 2, 1) := by decide +kernel
theorem u112_6 {d : Nat} {ls : Lo} {st : List Va} {σ : Sg} {Q : Rs → Sg → Prop} : Wx d 112 6 ls st σ Q ↔ Li (lget ls 2) (fun z => Wx d 112 7 ls (vi z :: st) σ Q) := u_iload_n d112_6
theorem d112_7 : decode (mB 112) 7 = .ok (.sipush 400, 3) := by decide +kernel
theorem u112_7 {d : Nat} {ls : Lo} {st : List Va} {σ : Sg} {Q : Rs → Sg → Prop} : Wx d 112 7 ls st σ Q ↔ Wx d 112 10 ls (vi 400 :: st) σ Q := u_sipush d112_7 (by decide)
theorem d112_10 : decode (mB 112) 10 = .ok (.iload_n 1, 1) := by decide +kernel
theorem u112_10 {d : Nat} {ls : Lo} {st : List Va} {σ : Sg} {Q : Rs → Sg → Prop} : Wx d 112 10 ls st σ Q ↔ Li (lget ls 1) (fun z => Wx d 112 11 ls (vi z :: st) σ Q) := u_iload_n d112_10
theorem d112_11 : decode (mB 112) 11 = .ok (.imul, 1) := by decide +kernel
theorem u112_11 {d : Nat} {ls : Lo} {st : List Va} {σ : Sg} {Q : Rs → Sg → Prop} {a b : Int} : Wx d 112 11 ls (vi b :: vi a :: st) σ Q ↔ Wx d 112 12 ls (vi (a * b) :: st) σ Q := u_imul d112_11
theorem d112_12 : decode (mB 112) 12 = .ok (.aload_n 0, 1) := by decide +kernel
theorem u112_12 {d : Nat} {ls : Lo} {st : List Va} {σ : Sg} {Q : Rs → Sg → Prop} : Wx d 112 12 ls st σ Q ↔ Lr (lget ls 0) (fun z => Wx d 112 13 ls (.inr (.inl z) :: st) σ Q) := u_aload_n d112_12
theorem d112_13 : decode (mB 112) 13 = .ok (.getfield 65, 3) := by decide +kernel
theorem u112_13 {d : Nat} {ls : Lo} {st : List Va} {σ : Sg} {Q : Rs → Sg → Prop} {g j : Nat} : Wx d 112 13 ls (vr g j :: st) σ Q ↔ isO g j 7 ∧ Wx d 112 16 ls (fvv σ g j 26 :: st) σ Q := u_get (w := (7, 26)) d112_13 rfl
theorem d112_16 : decode (mB 112) 16 = .ok (.iload_n 1, 1) := by decide +kernel
theorem u112_16 {d : Nat} {ls : Lo} {st : List Va} {σ : Sg} {Q : Rs → Sg → Prop} : Wx d 112 16 ls st σ Q ↔ Li (lget ls 1) (fun z => Wx d 112 17 ls (vi z :: st) σ Q) := u_iload_n d112_16
theorem d112_17 : decode (mB 112) 17 = .ok (.iaload, 1) := by decide +kernel
theorem u112_17 {d : Nat} {ls : Lo} {st : List Va} {σ : Sg} {Q : Rs → Sg → Prop} {z : Int} {g j : Nat} : Wx d 112 17 ls (vi z :: vr g j :: st) σ Q ↔ On (ial σ g j z) (fun x => Wx d 112 18 ls (vi x :: st) σ Q) := u_iald d112_17
theorem d112_18 : decode (mB 112) 18 = .ok (.iadd, 1) := by decide +kernel
theorem u112_18 {d : Nat} {ls : Lo} {st : List Va} {σ : Sg} {Q : Rs → Sg → Prop} {a b : Int} : Wx d 112 18 ls (vi b :: vi a :: st) σ Q ↔ Wx d 112 19 ls (vi (a + b) :: st) σ Q := u_iadd d112_18
theorem d112_19 : decode (mB 112) 19 = .ok (.if_icmp .ge 119, 3) := by decide +kernel
theorem u112_19 {d : Nat} {ls : Lo} {st : List Va} {σ : Sg} {Q : Rs → Sg → Prop} {a b : Int} (h : -2147483648 ≤ a ∧ a ≤ 2147483647) (h2 : -2147483648 ≤ b ∧ b ≤ 2147483647) : Wx d 112 19 ls (vi b :: vi a :: st) σ Q ↔ if b ≤ a then Wx d 112 138 ls st σ Q else Wx d 112 22 ls st σ Q := u_icge d112_19 (by decide) h h2
theorem d112_22 : decode (mB 112) 22 = .ok (.aload_n 0, 1) := by decide +kernel
theorem u112_22 {d : Nat} {ls : Lo} {st : List Va} {σ : Sg} {Q : Rs → Sg → Prop} : Wx d 112 22 ls st σ Q ↔ Lr (lget ls 0) (fun z => Wx d 112 23 ls (.inr (.inl z) :: st) σ Q) := u_aload_n d112_22
theorem d112_23 : decode (mB 112) 23 = .ok (.getfield 80, 3) := by decide +kernel
theorem u112_23 {d : Nat} {ls : Lo} {st : List Va} {σ : Sg} {Q : Rs → Sg → Prop} {g j : Nat} : Wx d 112 23 ls (vr g j :: st) σ Q ↔ isO g j 7 ∧ Wx d 112 26 ls (fvv σ g j 31 :: st) σ Q := u_get (w := (7, 31)) d112_23 rfl
theorem d112_26 : decode (mB 112) 26 = .ok (.iload_n 2, 1) := by decide +kernel
theorem u112_26 {d : Nat} {ls : Lo} {st : List Va} {σ : Sg} {Q : Rs → Sg → Prop} : Wx d 112 26 ls st σ Q ↔ Li (lget ls 2) (fun z => Wx d 112 27 ls (vi z :: st) σ Q) := u_iload_n d112_26
theorem d112_27 : decode (mB 112) 27 = .ok (.iload_n 1, 1) := by decide +kernel
theorem u112_27 {d : Nat} {ls : Lo} {st : List Va} {σ : Sg} {Q : Rs → Sg → Prop} : Wx d 112 27 ls st σ Q ↔ Li (lget ls 1) (fun z => Wx d 112 28 ls (vi z :: st) σ Q) := u_iload_n d112_27
theorem d112_28 : decode (mB 112) 28 = .ok (.ifCond .ne 7, 3) := by decide +kernel
theorem u112_28 {d : Nat} {ls : Lo} {st : List Va} {σ : Sg} {Q : Rs → Sg → Prop} {a : Int} (h : -2147483648 ≤ a ∧ a ≤ 2147483647) : Wx d 112 28 ls (vi a :: st) σ Q ↔ if ¬ a = 0 then Wx d 112 35 ls st σ Q else Wx d 112 31 ls st σ Q := u_ifne d112_28 (by decide) h
theorem d112_31 : decode (mB 112) 31 = .ok (.iconst 1, 1) := by decide +kernel
theorem u112_31 {d : Nat} {ls : Lo} {st : List Va} {σ : Sg} {Q : Rs → Sg → Prop} : Wx d 112 31 ls st σ Q ↔ Wx d 112 32 ls (vi 1 :: st) σ Q := u_iconst d112_31
theorem d112_32 : decode (mB 112) 32 = .ok (.goto 4, 3) := by decide +kernel
theorem u112_32 {d : Nat} {ls : Lo} {st : List Va} {σ : Sg} {Q : Rs → Sg → Prop} : Wx d 112 32 ls st σ Q ↔ Wx d 112 36 ls st σ Q := u_goto d112_32 (by decide)
theorem d112_35 : decode (mB 112) 35 = .ok (.iconst 0, 1) := by decide +kernel
theorem u112_35 {d : Nat} {ls : Lo} {st : List Va} {σ : Sg} {Q : Rs → Sg → Prop} : Wx d 112 35 ls st σ Q ↔ Wx d 112 36 ls (vi 0 :: st) σ Q := u_iconst d112_35
theorem d112_36 : decode (mB 112) 36 = .ok (.bastore, 1) := by decide +kernel
theorem u112_36 {d : Nat} {ls : Lo} {st : List Va} {σ : Sg} {Q : Rs → Sg → Prop} {x z : Int} {g j : Nat} : Wx d 112 36 ls (vi x :: vi z :: vr g j :: st) σ Q ↔ (isA g j 1 z ∧ (x = 0 ∨ x = 1)) ∧ Wx d 112 37 ls st (up σ g j z.toNat x) Q := u_zast d112_36
theorem d112_37 : decode (mB 112) 37 = .ok (.aload_n 0, 1) := by decide +kernel
theorem u112_37 {d : Nat} {ls : Lo} {st : List Va} {σ : Sg} {Q : Rs → Sg → Prop} : Wx d 112 37 ls st σ Q ↔ Lr (lget ls 0) (fun z => Wx d 112 38 ls (.inr (.inl z) :: st) σ Q) := u_aload_n d112_37
theorem d112_38 : decode (mB 112) 38 = .ok (.iload_n 1, 1) := by decide +kernel
theorem u112_38 {d : Nat} {ls : Lo} {st : List Va} {σ : Sg} {Q : Rs → Sg → Prop} : Wx d 112 38 ls st σ Q ↔ Li (lget ls 1) (fun z => Wx d 112 39 ls (vi z :: st) σ Q) := u_iload_n d112_38
theorem d112_39 : decode (mB 112) 39 = .ok (.iload_n 2, 1) := by decide +kernel
theorem u112_39 {d : Nat} {ls : Lo} {st : List Va} {σ : Sg} {Q : Rs → Sg → Prop} : Wx d 112 39 ls st σ Q ↔ Li (lget ls 2) (fun z => Wx d 112 40 ls (vi z :: st) σ Q) := u_iload_n d112_39
theorem d112_40 : decode (mB 112) 40 = .ok (.invokevirtual 221, 3) := by decide +kernel
theorem u112_40 {d : Nat} {ls : Lo} {st : List Va} {σ : Sg} {Q : Rs → Sg → Prop} {g j : Nat} {a1 a2 : Va} : Wx (d + 1) 112 40 ls (a2 :: a1 :: vr g j :: st) σ Q ↔ (isO g j 7 ∧ st.length ≤ 4 ∧ nlg [a2, a1] = true) ∧ Wm d 106 [vr g j, a1, a2] σ (Kc (d + 1) 112 43 ls st Q) := u_inv2 d112_40 rfl rfl rfl
theorem d112_43 : decode (mB 112) 43 = .ok (.sipush 400, 3) := by decide +kernel
theorem u112_43 {d : Nat} {ls : Lo} {st : List Va} {σ : Sg} {Q : Rs → Sg → Prop} : Wx d 112 43 ls st σ Q ↔ Wx d 112 46 ls (vi 400 :: st) σ Q := u_sipush d112_43 (by decide)
theorem d112_46 : decode (mB 112) 46 = .ok (.iload_n 1, 1) := by decide +kernel
theorem u112_46 {d : Nat} {ls : Lo} {st : List Va} {σ : Sg} {Q : Rs → Sg → Prop} : Wx d 112 46 ls st σ Q ↔ Li (lget ls 1) (fun z => Wx d 112 47 ls (vi z :: st) σ Q) := u_iload_n d112_46
theorem d112_47 : decode (mB 112) 47 = .ok (.imul, 1) := by decide +kernel
theorem u112_47 {d : Nat} {ls : Lo} {st : List Va} {σ : Sg} {Q : Rs → Sg → Prop} {a b : Int} : Wx d 112 47 ls (vi b :: vi a :: st) σ Q ↔ Wx d 112 48 ls (vi (a * b) :: st) σ Q := u_imul d112_47
theorem d112_48 : decode (mB 112) 48 = .ok (.sipush 400, 3) := by decide +kernel
theorem u112_48 {d : Nat} {ls : Lo} {st : List Va} {σ : Sg} {Q : Rs → Sg → Prop} : Wx d 112 48 ls st σ Q ↔ Wx d 112 51 ls (vi 400 :: st) σ Q := u_sipush d112_48 (by decide)
theorem d112_51 : decode (mB 112) 51 = .ok (.isub, 1) := by decide +kernel
theorem u112_51 {d : Nat} {ls : Lo} {st : List Va} {σ : Sg} {Q : Rs → Sg → Prop} {a b : Int} : Wx d 112 51 ls (vi b :: vi a :: st) σ Q ↔ Wx d 112 52 ls (vi (a - b) :: st) σ Q := u_isub d112_51
theorem d112_52 : decode (mB 112) 52 = .ok (.istore_n 3, 1) := by decide +kernel
theorem u112_52 {d : Nat} {ls : Lo} {st : List Va} {σ : Sg} {Q : Rs → Sg → Prop} {z : Int} : Wx d 112 52 ls (vi z :: st) σ Q ↔ Wx d 112 53 (lset ls 3 (vi z)) st σ Q := u_istore_n d112_52 (by decide)
theorem d112_53 : decode (mB 112) 53 = .ok (.iload_n 1, 1) := by decide +kernel
theorem u112_53 {d : Nat} {ls : Lo} {st : List Va} {σ : Sg} {Q : Rs → Sg → Prop} : Wx d 112 53 ls st σ Q ↔ Li (lget ls 1) (fun z => Wx d 112 54 ls (vi z :: st) σ Q) := u_iload_n d112_53
theorem d112_54 : decode (mB 112) 54 = .ok (.ifCond .le 78, 3) := by decide +kernel
theorem u112_54 {d : Nat} {ls : Lo} {st : List Va} {σ : Sg} {Q : Rs → Sg → Prop} {a : Int} (h : -2147483648 ≤ a ∧ a ≤ 2147483647) : Wx d 112 54 ls (vi a :: st) σ Q ↔ if a ≤ 0 then Wx d 112 132 ls st σ Q else Wx d 112 57 ls st σ Q := u_ifle d112_54 (by decide) h
theorem d112_57 : decode (mB 112) 57 = .ok (.iload_n 3, 1) := by decide +kernel
theorem u112_57 {d : Nat} {ls : Lo} {st : List Va} {σ : Sg} {Q : Rs → Sg → Prop} : Wx d 112 57 ls st σ Q ↔ Li (lget ls 3) (fun z => Wx d 112 58 ls (vi z :: st) σ Q) := u_iload_n d112_57
theorem d112_58 : decode (mB 112) 58 = .ok (.sipush 400, 3) := by decide +kernel
theorem u112_58 {d : Nat} {ls : Lo} {st : List Va} {σ : Sg} {Q : Rs → Sg → Prop} : Wx d 112 58 ls st σ Q ↔ Wx d 112 61 ls (vi 400 :: st) σ Q := u_sipush d112_58 (by decide)
theorem d112_61 : decode (mB 112) 61 = .ok (.iload_n 1, 1) := by decide +kernel
theorem u112_61 {d : Nat} {ls : Lo} {st : List Va} {σ : Sg} {Q : Rs → Sg → Prop} : Wx d 112 61 ls st σ Q ↔ Li (lget ls 1) (fun z => Wx d 112 62 ls (vi z :: st) σ Q) := u_iload_n d112_61
theorem d112_62 : decode (mB 112) 62 = .ok (.imul, 1) := by decide +kernel
theorem u112_62 {d : Nat} {ls : Lo} {st : List Va} {σ : Sg} {Q : Rs → Sg → Prop} {a b : Int} : Wx d 112 62 ls (vi b :: vi a :: st) σ Q ↔ Wx d 112 63 ls (vi (a * b) :: st) σ Q := u_imul d112_62
theorem d112_63 : decode (mB 112) 63 = .ok (.sipush 400, 3) := by decide +kernel
theorem u112_63 {d : Nat} {ls : Lo} {st : List Va} {σ : Sg} {Q : Rs → Sg → Prop} : Wx d 112 63 ls st σ Q ↔ Wx d 112 66 ls (vi 400 :: st) σ Q := u_sipush d112_63 (by decide)
theorem d112_66 : decode (mB 112) 66 = .ok (.isub, 1) := by decide +kernel
theorem u112_66 {d : Nat} {ls : Lo} {st : List Va} {σ : Sg} {Q : Rs → Sg → Prop} {a b : Int} : Wx d 112 66 ls (vi b :: vi a :: st) σ Q ↔ Wx d 112 67 ls (vi (a - b) :: st) σ Q := u_isub d112_66
theorem d112_67 : decode (mB 112) 67 = .ok (.aload_n 0, 1) := by decide +kernel
theorem u112_67 {d : Nat} {ls : Lo} {st : List Va} {σ : Sg} {Q : Rs → Sg → Prop} : Wx d 112 67 ls st σ Q ↔ Lr (lget ls 0) (fun z => Wx d 112 68 ls (.inr (.inl z) :: st) σ Q) := u_aload_n d112_67
theorem d112_68 : decode (mB 112) 68 = .ok (.getfield 65, 3) := by decide +kernel
theorem u112_68 {d : Nat} {ls : Lo} {st : List Va} {σ : Sg} {Q : Rs → Sg → Prop} {g j : Nat} : Wx d 112 68 ls (vr g j :: st) σ Q ↔ isO g j 7 ∧ Wx d 112 71 ls (fvv σ g j 26 :: st) σ Q := u_get (w := (7, 26)) d112_68 rfl
theorem d112_71 : decode (mB 112) 71 = .ok (.iload_n 1, 1) := by decide +kernel
theorem u112_71 {d : Nat} {ls : Lo} {st : List Va} {σ : Sg} {Q : Rs → Sg → Prop} : Wx d 112 71 ls st σ Q ↔ Li (lget ls 1) (fun z => Wx d 112 72 ls (vi z :: st) σ Q) := u_iload_n d112_71
theorem d112_72 : decode (mB 112) 72 = .ok (.iconst 1, 1) := by decide +kernel
theorem u112_72 {d : Nat} {ls : Lo} {st : List Va} {σ : Sg} {Q : Rs → Sg → Prop} : Wx d 112 72 ls st σ Q ↔ Wx d 112 73 ls (vi 1 :: st) σ Q := u_iconst d112_72
theorem d112_73 : decode (mB 112) 73 = .ok (.isub, 1) := by decide +kernel
theorem u112_73 {d : Nat} {ls : Lo} {st : List Va} {σ : Sg} {Q : Rs → Sg → Prop} {a b : Int} : Wx d 112 73 ls (vi b :: vi a :: st) σ Q ↔ Wx d 112 74 ls (vi (a - b) :: st) σ Q := u_isub d112_73
theorem d112_74 : decode (mB 112) 74 = .ok (.iaload, 1) := by decide +kernel
theorem u112_74 {d : Nat} {ls : Lo} {st : List Va} {σ : Sg} {Q : Rs → Sg → Prop} {z : Int} {g j : Nat} : Wx d 112 74 ls (vi z :: vr g j :: st) σ Q ↔ On (ial σ g j z) (fun x => Wx d 112 75 ls (vi x :: st) σ Q) := u_iald d112_74
theorem d112_75 : decode (mB 112) 75 = .ok (.iadd, 1) := by decide +kernel
theorem u112_75 {d : Nat} {ls : Lo} {st : List Va} {σ : Sg} {Q : Rs → Sg → Prop} {a b : Int} : Wx d 112 75 ls (vi b :: vi a :: st) σ Q ↔ Wx d 112 76 ls (vi (a + b) :: st) σ Q := u_iadd d112_75
theorem d112_76 : decode (mB 112) 76 = .ok (.if_icmp .ge 56, 3) := by decide +kernel
theorem u112_76 {d : Nat} {ls : Lo} {st : List Va} {σ : Sg} {Q : Rs → Sg → Prop} {a b : Int} (h : -2147483648 ≤ a ∧ a ≤ 2147483647) (h2 : -2147483648 ≤ b ∧ b ≤ 2147483647) : Wx d 112 76 ls (vi b :: vi a :: st) σ Q ↔ if b ≤ a then Wx d 112 132 ls st σ Q else Wx d 112 79 ls st σ Q := u_icge d112_76 (by decide) h h2
theorem d112_79 : decode (mB 112) 79 = .ok (.aload_n 0, 1) := by decide +kernel
theorem u112_79 {d : Nat} {ls : Lo} {st : List Va} {σ : Sg} {Q : Rs → Sg → Prop} : Wx d 112 79 ls st σ Q ↔ Lr (lget ls 0) (fun z => Wx d 112 80 ls (.inr (.inl z) :: st) σ Q) := u_aload_n d112_79
theorem d112_80 : decode (mB 112) 80 = .ok (.getfield 80, 3) := by decide +kernel
theorem u112_80 {d : Nat} {ls : Lo} {st : List Va} {σ : Sg} {Q : Rs → Sg → Prop} {g j : Nat} : Wx d 112 80 ls (vr g j :: st) σ Q ↔ isO g j 7 ∧ Wx d 112 83 ls (fvv σ g j 31 :: st) σ Q := u_get (w := (7, 31)) d112_80 rfl
theorem d112_83 : decode (mB 112) 83 = .ok (.iload_n 2, 1) := by decide +kernel
theorem u112_83 {d : Nat} {ls : Lo} {st : List Va} {σ : Sg} {Q : Rs → Sg → Prop} : Wx d 112 83 ls st σ Q ↔ Li (lget ls 2) (fun z => Wx d 112 84 ls (vi z :: st) σ Q) := u_iload_n d112_83
theorem d112_84 : decode (mB 112) 84 = .ok (.baload, 1) := by decide +kernel
theorem u112_84 {d : Nat} {ls : Lo} {st : List Va} {σ : Sg} {Q : Rs → Sg → Prop} {z : Int} {g j : Nat} : Wx d 112 84 ls (vi z :: vr g j :: st) σ Q ↔ isA g j 1 z ∧ Wx d 112 85 ls (vi (σ g j z.toNat) :: st) σ Q := u_zald d112_84
theorem d112_85 : decode (mB 112) 85 = .ok (.ifCond .ne 47, 3) := by decide +kernel
theorem u112_85 {d : Nat} {ls : Lo} {st : List Va} {σ : Sg} {Q : Rs → Sg → Prop} {a : Int} (h : -2147483648 ≤ a ∧ a ≤ 2147483647) : Wx d 112 85 ls (vi a :: st) σ Q ↔ if ¬ a = 0 then Wx d 112 132 ls st σ Q else Wx d 112 88 ls st σ Q := u_ifne d112_85 (by decide) h
theorem d112_88 : decode (mB 112) 88 = .ok (.aload_n 0, 1) := by decide +kernel
theorem u112_88 {d : Nat} {ls : Lo} {st : List Va} {σ : Sg} {Q : Rs → Sg → Prop} : Wx d 112 88 ls st σ Q ↔ Lr (lget ls 0) (fun z => Wx d 112 89 ls (.inr (.inl z) :: st) σ Q) := u_aload_n d112_88
theorem d112_89 : decode (mB 112) 89 = .ok (.iload_n 1, 1) := by decide +kernel
theorem u112_89 {d : Nat} {ls : Lo} {st : List Va} {σ : Sg} {Q : Rs → Sg → Prop} : Wx d 112 89 ls st σ Q ↔ Li (lget ls 1) (fun z => Wx d 112 90 ls (vi z :: st) σ Q) := u_iload_n d112_89
theorem d112_90 : decode (mB 112) 90 = .ok (.iconst 1, 1) := by decide +kernel
theorem u112_90 {d : Nat} {ls : Lo} {st : List Va} {σ : Sg} {Q : Rs → Sg → Prop} : Wx d 112 90 ls st σ Q ↔ Wx d 112 91 ls (vi 1 :: st) σ Q := u_iconst d112_90
theorem d112_91 : decode (mB 112) 91 = .ok (.isub, 1) := by decide +kernel
theorem u112_91 {d : Nat} {ls : Lo} {st : List Va} {σ : Sg} {Q : Rs → Sg → Prop} {a b : Int} : Wx d 112 91 ls (vi b :: vi a :: st) σ Q ↔ Wx d 112 92 ls (vi (a - b) :: st) σ Q := u_isub d112_91
theorem d112_92 : decode (mB 112) 92 = .ok (.iload_n 3, 1) := by decide +kernel
theorem u112_92 {d : Nat} {ls : Lo} {st : List Va} {σ : Sg} {Q : Rs → Sg → Prop} : Wx d 112 92 ls st σ Q ↔ Li (lget ls 3) (fun z => Wx d 112 93 ls (vi z :: st) σ Q) := u_iload_n d112_92
theorem d112_93 : decode (mB 112) 93 = .ok (.invokevirtual 214, 3) := by decide +kernel
theorem u112_93 {d : Nat} {ls : Lo} {st : List Va} {σ : Sg} {Q : Rs → Sg → Prop} {g j : Nat} {a1 a2 : Va} : Wx (d + 1) 112 93 ls (a2 :: a1 :: vr g j :: st) σ Q ↔ (isO g j 7 ∧ st.length ≤ 4 ∧ nlg [a2, a1] = true) ∧ Wm d 105 [vr g j, a1, a2] σ (Kc (d + 1) 112 96 ls st Q) := u_inv2 d112_93 rfl rfl rfl
theorem d112_96 : decode (mB 112) 96 = .ok (.aload_n 0, 1) := by decide +kernel
theorem u112_96 {d : Nat} {ls : Lo} {st : List Va} {σ : Sg} {Q : Rs → Sg → Prop} : Wx d 112 96 ls st σ Q ↔ Lr (lget ls 0) (fun z => Wx d 112 97 ls (.inr (.inl z) :: st) σ Q) := u_aload_n d112_96
theorem d112_97 : decode (mB 112) 97 = .ok (.getfield 80, 3) := by decide +kernel
theorem u112_97 {d : Nat} {ls : Lo} {st : List Va} {σ : Sg} {Q : Rs → Sg → Prop} {g j : Nat} : Wx d 112 97 ls (vr g j :: st) σ Q ↔ isO g j 7 ∧ Wx d 112 100 ls (fvv σ g j 31 :: st) σ Q := u_get (w := (7, 31)) d112_97 rfl
theorem d112_100 : decode (mB 112) 100 = .ok (.iload_n 2, 1) := by decide +kernel
theorem u112_100 {d : Nat} {ls : Lo} {st : List Va} {σ : Sg} {Q : Rs → Sg → Prop} : Wx d 112 100 ls st σ Q ↔ Li (lget ls 2) (fun z => Wx d 112 101 ls (vi z :: st) σ Q) := u_iload_n d112_100
theorem d112_101 : decode (mB 112) 101 = .ok (.aload_n 0, 1) := by decide +kernel
theorem u112_101 {d : Nat} {ls : Lo} {st : List Va} {σ : Sg} {Q : Rs → Sg → Prop} : Wx d 112 101 ls st σ Q ↔ Lr (lget ls 0) (fun z => Wx d 112 102 ls (.inr (.inl z) :: st) σ Q) := u_aload_n d112_101
theorem d112_102 : decode (mB 112) 102 = .ok (.getfield 80, 3) := by decide +kernel
theorem u112_102 {d : Nat} {ls : Lo} {st : List Va} {σ : Sg} {Q : Rs → Sg → Prop} {g j : Nat} : Wx d 112 102 ls (vr g j :: st) σ Q ↔ isO g j 7 ∧ Wx d 112 105 ls (fvv σ g j 31 :: st) σ Q := u_get (w := (7, 31)) d112_102 rfl
theorem d112_105 : decode (mB 112) 105 = .ok (.iload_n 3, 1) := by decide +kernel
theorem u112_105 {d : Nat} {ls : Lo} {st : List Va} {σ : Sg} {Q : Rs → Sg → Prop} : Wx d 112 105 ls st σ Q ↔ Li (lget ls 3) (fun z => Wx d 112 106 ls (vi z :: st) σ Q) := u_iload_n d112_105
theorem d112_106 : decode (mB 112) 106 = .ok (.baload, 1) := by decide +kernel
theorem u112_106 {d : Nat} {ls : Lo} {st : List Va} {σ : Sg} {Q : Rs → Sg → Prop} {z : Int} {g j : Nat} : Wx d 112 106 ls (vi z :: vr g j :: st) σ Q ↔ isA g j 1 z ∧ Wx d 112 107 ls (vi (σ g j z.toNat) :: st) σ Q := u_zald d112_106
theorem d112_107 : decode (mB 112) 107 = .ok (.ifCond .eq 17, 3) := by decide +kernel
theorem u112_107 {d : Nat} {ls : Lo} {st : List Va} {σ : Sg} {Q : Rs → Sg → Prop} {a : Int} (h : -2147483648 ≤ a ∧ a ≤ 2147483647) : Wx d 112 107 ls (vi a :: st) σ Q ↔ if a = 0 then Wx d 112 124 ls st σ Q else Wx d 112 110 ls st σ Q := u_ifeq d112_107 (by decide) h
theorem d112_110 : decode (mB 112) 110 = .ok (.aload_n 0, 1) := by decide +kernel
theorem u112_110 {d : Nat} {ls : Lo} {st : List Va} {σ : Sg} {Q : Rs → Sg → Prop} : Wx d 112 110 ls st σ Q ↔ Lr (lget ls 0) (fun z => Wx d 112 111 ls (.inr (.inl z) :: st) σ Q) := u_aload_n d112_110
theorem d112_111 : decode (mB 112) 111 = .ok (.iload_n 1, 1) := by decide +kernel
theorem u112_111 {d : Nat} {ls : Lo} {st : List Va} {σ : Sg} {Q : Rs → Sg → Prop} : Wx d 112 111 ls st σ Q ↔ Li (lget ls 1) (fun z => Wx d 112 112 ls (vi z :: st) σ Q) := u_iload_n d112_111
theorem d112_112 : decode (mB 112) 112 = .ok (.iconst 1, 1) := by decide +kernel
theorem u112_112 {d : Nat} {ls : Lo} {st : List Va} {σ : Sg} {Q : Rs → Sg → Prop} : Wx d 112 112 ls st σ Q ↔ Wx d 112 113 ls (vi 1 :: st) σ Q := u_iconst d112_112
theorem d112_113 : decode (mB 112) 113 = .ok (.isub, 1) := by decide +kernel
theorem u112_113 {d : Nat} {ls : Lo} {st : List Va} {σ : Sg} {Q : Rs → Sg → Prop} {a b : Int} : Wx d 112 113 ls (vi b :: vi a :: st) σ Q ↔ Wx d 112 114 ls (vi (a - b) :: st) σ Q := u_isub d112_113
theorem d112_114 : decode (mB 112) 114 = .ok (.invokevirtual 227, 3) := by decide +kernel
theorem u112_114 {d : Nat} {ls : Lo} {st : List Va} {σ : Sg} {Q : Rs → Sg → Prop} {g j : Nat} {a1 : Va} : Wx (d + 1) 112 114 ls (a1 :: vr g j :: st) σ Q ↔ (isO g j 7 ∧ st.length ≤ 4 ∧ nlg [a1] = true) ∧ Wm d 107 [vr g j, a1] σ (Kc (d + 1) 112 117 ls st Q) := u_inv1 d112_114 rfl rfl rfl
theorem d112_117 : decode (mB 112) 117 = .ok (.ifCond .eq 7, 3) := by decide +kernel
theorem u112_117 {d : Nat} {ls : Lo} {st : List Va} {σ : Sg} {Q : Rs → Sg → Prop} {a : Int} (h : -2147483648 ≤ a ∧ a ≤ 2147483647) : Wx d 112 117 ls (vi a :: st) σ Q ↔ if a = 0 then Wx d 112 124 ls st σ Q else Wx d 112 120 ls st σ Q := u_ifeq d112_117 (by decide) h
theorem d112_120 : decode (mB 112) 120 = .ok (.iconst 1, 1) := by decide +kernel
theorem u112_120 {d : Nat} {ls : Lo} {st : List Va} {σ : Sg} {Q : Rs → Sg → Prop} : Wx d 112 120 ls st σ Q ↔ Wx d 112 121 ls (vi 1 :: st) σ Q := u_iconst d112_120
theorem d112_121 : decode (mB 112) 121 = .ok (.goto 4, 3) := by decide +kernel
theorem u112_121 {d : Nat} {ls : Lo} {st : List Va} {σ : Sg} {Q : Rs → Sg → Prop} : Wx d 112 121 ls st σ Q ↔ Wx d 112 125 ls st σ Q := u_goto d112_121 (by decide)
theorem d112_124 : decode (mB 112) 124 = .ok (.iconst 0, 1) := by decide +kernel
theorem u112_124 {d : Nat} {ls : Lo} {st : List Va} {σ : Sg} {Q : Rs → Sg → Prop} : Wx d 112 124 ls st σ Q ↔ Wx d 112 125 ls (vi 0 :: st) σ Q := u_iconst d112_124
theorem d112_125 : decode (mB 112) 125 = .ok (.bastore, 1) := by decide +kernel
theorem u112_125 {d : Nat} {ls : Lo} {st : List Va} {σ : Sg} {Q : Rs → Sg → Prop} {x z : Int} {g j : Nat} : Wx d 112 125 ls (vi x :: vi z :: vr g j :: st) σ Q ↔ (isA g j 1 z ∧ (x = 0 ∨ x = 1)) ∧ Wx d 112 126 ls st (up σ g j z.toNat x) Q := u_zast d112_125
theorem d112_126 : decode (mB 112) 126 = .ok (.iinc 3 1, 3) := by decide +kernel
theorem u112_126 {d : Nat} {ls : Lo} {st : List Va} {σ : Sg} {Q : Rs → Sg → Prop} : Wx d 112 126 ls st σ Q ↔ Li (lget ls 3) (fun z => Wx d 112 129 (lset ls 3 (vi (z + 1))) st σ Q) := u_iinc d112_126 (by decide)
theorem d112_129 : decode (mB 112) 129 = .ok (.goto (-76), 3) := by decide +kernel
theorem u112_129 {d : Nat} {ls : Lo} {st : List Va} {σ : Sg} {Q : Rs → Sg → Prop} : Wx d 112 129 ls st σ Q ↔ Wx d 112 53 ls st σ Q := u_goto d112_129 (by decide)
theorem d112_132 : decode (mB 112) 132 = .ok (.iinc 2 1, 3) := by decide +kernel
theorem u112_132 {d : Nat} {ls : Lo} {st : List Va} {σ : Sg} {Q : Rs → Sg → Prop} : Wx d 112 132 ls st σ Q ↔ Li (lget ls 2) (fun z => Wx d 112 135 (lset ls 2 (vi (z + 1))) st σ Q) := u_iinc d112_132 (by decide)
theorem d112_135 : decode (mB 112) 135 = .ok (.goto (-129), 3) := by decide +kernel
theorem u112_135 {d : Nat} {ls : Lo} {st : List Va} {σ : Sg} {Q : Rs → Sg → Prop} : Wx d 112 135 ls st σ Q ↔ Wx d 112 6 ls st σ Q := u_goto d112_135 (by decide)
theorem d112_138 : decode (mB 112) 138 = .ok (.return_, 1) := by decide +kernel
theorem u112_138 {d : Nat} {ls : Lo} {σ : Sg} {Q : Rs → Sg → Prop} : Wx d 112 138 ls [] σ Q ↔ Q (.inl none) σ := u_vret d112_138 rfl
/-! 113: FiguredBassModel.barred()I -/
theorem d113_0 : decode (mB 113) 0 = .ok (.iconst 0, 1) := by decide +kernel
theorem u113_0 {d : Nat} {ls : Lo} {st : List Va} {σ : Sg} {Q : Rs → Sg → Prop} : Wx d 113 0 ls st σ Q ↔ Wx d 113 1 ls (vi 0 :: st) σ Q := u_iconst d113_0
theorem d113_1 : decode (mB 113) 1 = .ok (.istore_n 1, 1) := by decide +kernel
theorem u113_1 {d : Nat} {ls : Lo} {st : List Va} {σ : Sg} {Q : Rs → Sg → Prop} {z : Int} : Wx d 113 1 ls (vi z :: st) σ Q ↔ Wx d 113 2 (lset ls 1 (vi z)) st σ Q := u_istore_n d113_1 (by decide)
theorem d113_2 : decode (mB 113) 2 = .ok (.iload_n 1, 1) := by decide +kernel
theorem u113_2 {d : Nat} {ls : Lo} {st : List Va} {σ : Sg} {Q : Rs → Sg → Prop} : Wx d 113 2 ls st σ Q ↔ Li (lget ls 1) (fun z => Wx d 113 3 ls (vi z :: st) σ Q) := u_iload_n d113_2
theorem d113_3 : decode (mB 113) 3 = .ok (.aload_n 0, 1) := by decide +kernel
theorem u113_3 {d : Nat} {ls : Lo} {st : List Va} {σ : Sg} {Q : Rs → Sg → Prop} : Wx d 113 3 ls st σ Q ↔ Lr (lget ls 0) (fun z => Wx d 113 4 ls (.inr (.inl z) :: st) σ Q) := u_aload_n d113_3
theorem d113_4 : decode (mB 113) 4 = .ok (.getfield 22, 3) := by decide +kernel
theorem u113_4 {d : Nat} {ls : Lo} {st : List Va} {σ : Sg} {Q : Rs → Sg → Prop} {g j : Nat} : Wx d 113 4 ls (vr g j :: st) σ Q ↔ isO g j 7 ∧ Wx d 113 7 ls (fvv σ g j 7 :: st) σ Q := u_get (w := (7, 7)) d113_4 rfl
theorem d113_7 : decode (mB 113) 7 = .ok (.if_icmp .ge 69, 3) := by decide +kernel
theorem u113_7 {d : Nat} {ls : Lo} {st : List Va} {σ : Sg} {Q : Rs → Sg → Prop} {a b : Int} (h : -2147483648 ≤ a ∧ a ≤ 2147483647) (h2 : -2147483648 ≤ b ∧ b ≤ 2147483647) : Wx d 113 7 ls (vi b :: vi a :: st) σ Q ↔ if b ≤ a then Wx d 113 76 ls st σ Q else Wx d 113 10 ls st σ Q := u_icge d113_7 (by decide) h h2
theorem d113_10 : decode (mB 113) 10 = .ok (.aload_n 0, 1) := by decide +kernel
theorem u113_10 {d : Nat} {ls : Lo} {st : List Va} {σ : Sg} {Q : Rs → Sg → Prop} : Wx d 113 10 ls st σ Q ↔ Lr (lget ls 0) (fun z => Wx d 113 11 ls (.inr (.inl z) :: st) σ Q) := u_aload_n d113_10
theorem d113_11 : decode (mB 113) 11 = .ok (.iload_n 1, 1) := by decide +kernel
theorem u113_11 {d : Nat} {ls : Lo} {st : List Va} {σ : Sg} {Q : Rs → Sg → Prop} : Wx d 113 11 ls st σ Q ↔ Li (lget ls 1) (fun z => Wx d 113 12 ls (vi z :: st) σ Q) := u_iload_n d113_11
theorem d113_12 : decode (mB 113) 12 = .ok (.invokevirtual 230, 3) := by decide +kernel
theorem u113_12 {d : Nat} {ls : Lo} {st : List Va} {σ : Sg} {Q : Rs → Sg → Prop} {g j : Nat} {a1 : Va} : Wx (d + 1) 113 12 ls (a1 :: vr g j :: st) σ Q ↔ (isO g j 7 ∧ st.length ≤ 4 ∧ nlg [a1] = true) ∧ Wm d 112 [vr g j, a1] σ (Kc (d + 1) 113 15 ls st Q) := u_inv1 d113_12 rfl rfl rfl
theorem d113_15 : decode (mB 113) 15 = .ok (.iconst 0, 1) := by decide +kernel
theorem u113_15 {d : Nat} {ls : Lo} {st : List Va} {σ : Sg} {Q : Rs → Sg → Prop} : Wx d 113 15 ls st σ Q ↔ Wx d 113 16 ls (vi 0 :: st) σ Q := u_iconst d113_15
theorem d113_16 : decode (mB 113) 16 = .ok (.istore_n 2, 1) := by decide +kernel
theorem u113_16 {d : Nat} {ls : Lo} {st : List Va} {σ : Sg} {Q : Rs → Sg → Prop} {z : Int} : Wx d 113 16 ls (vi z :: st) σ Q ↔ Wx d 113 17 (lset ls 2 (vi z)) st σ Q := u_istore_n d113_16 (by decide)
theorem d113_17 : decode (mB 113) 17 = .ok (.sipush 400, 3) := by decide +kernel
theorem u113_17 {d : Nat} {ls : Lo} {st : List Va} {σ : Sg} {Q : Rs → Sg → Prop} : Wx d 113 17 ls st σ Q ↔ Wx d 113 20 ls (vi 400 :: st) σ Q := u_sipush d113_17 (by decide)
theorem d113_20 : decode (mB 113) 20 = .ok (.iload_n 1, 1) := by decide +kernel
theorem u113_20 {d : Nat} {ls : Lo} {st : List Va} {σ : Sg} {Q : Rs → Sg → Prop} : Wx d 113 20 ls st σ Q ↔ Li (lget ls 1) (fun z => Wx d 113 21 ls (vi z :: st) σ Q) := u_iload_n d113_20
theorem d113_21 : decode (mB 113) 21 = .ok (.imul, 1) := by decide +kernel
theorem u113_21 {d : Nat} {ls : Lo} {st : List Va} {σ : Sg} {Q : Rs → Sg → Prop} {a b : Int} : Wx d 113 21 ls (vi b :: vi a :: st) σ Q ↔ Wx d 113 22 ls (vi (a * b) :: st) σ Q := u_imul d113_21
theorem d113_22 : decode (mB 113) 22 = .ok (.istore_n 3, 1) := by decide +kernel
theorem u113_22 {d : Nat} {ls : Lo} {st : List Va} {σ : Sg} {Q : Rs → Sg → Prop} {z : Int} : Wx d 113 22 ls (vi z :: st) σ Q ↔ Wx d 113 23 (lset ls 3 (vi z)) st σ Q := u_istore_n d113_22 (by decide)
theorem d113_23 : decode (mB 113) 23 = .ok (.iload_n 3, 1) := by decide +kernel
theorem u113_23 {d : Nat} {ls : Lo} {st : List Va} {σ : Sg} {Q : Rs → Sg → Prop} : Wx d 113 23 ls st σ Q ↔ Li (lget ls 3) (fun z => Wx d 113 24 ls (vi z :: st) σ Q) := u_iload_n d113_23
theorem d113_24 : decode (mB 113) 24 = .ok (.sipush 400, 3) := by decide +kernel
theorem u113_24 {d : Nat} {ls : Lo} {st : List Va} {σ : Sg} {Q : Rs → Sg → Prop} : Wx d 113 24 ls st σ Q ↔ Wx d 113 27 ls (vi 400 :: st) σ Q := u_sipush d113_24 (by decide)
theorem d113_27 : decode (mB 113) 27 = .ok (.iload_n 1, 1) := by decide +kernel
theorem u113_27 {d : Nat} {ls : Lo} {st : List Va} {σ : Sg} {Q : Rs → Sg → Prop} : Wx d 113 27 ls st σ Q ↔ Li (lget ls 1) (fun z => Wx d 113 28 ls (vi z :: st) σ Q) := u_iload_n d113_27
theorem d113_28 : decode (mB 113) 28 = .ok (.imul, 1) := by decide +kernel
theorem u113_28 {d : Nat} {ls : Lo} {st : List Va} {σ : Sg} {Q : Rs → Sg → Prop} {a b : Int} : Wx d 113 28 ls (vi b :: vi a :: st) σ Q ↔ Wx d 113 29 ls (vi (a * b) :: st) σ Q := u_imul d113_28
theorem d113_29 : decode (mB 113) 29 = .ok (.aload_n 0, 1) := by decide +kernel
theorem u113_29 {d : Nat} {ls : Lo} {st : List Va} {σ : Sg} {Q : Rs → Sg → Prop} : Wx d 113 29 ls st σ Q ↔ Lr (lget ls 0) (fun z => Wx d 113 30 ls (.inr (.inl z) :: st) σ Q) := u_aload_n d113_29
theorem d113_30 : decode (mB 113) 30 = .ok (.getfield 65, 3) := by decide +kernel
theorem u113_30 {d : Nat} {ls : Lo} {st : List Va} {σ : Sg} {Q : Rs → Sg → Prop} {g j : Nat} : Wx d 113 30 ls (vr g j :: st) σ Q ↔ isO g j 7 ∧ Wx d 113 33 ls (fvv σ g j 26 :: st) σ Q := u_get (w := (7, 26)) d113_30 rfl
theorem d113_33 : decode (mB 113) 33 = .ok (.iload_n 1, 1) := by decide +kernel
theorem u113_33 {d : Nat} {ls : Lo} {st : List Va} {σ : Sg} {Q : Rs → Sg → Prop} : Wx d 113 33 ls st σ Q ↔ Li (lget ls 1) (fun z => Wx d 113 34 ls (vi z :: st) σ Q) := u_iload_n d113_33
theorem d113_34 : decode (mB 113) 34 = .ok (.iaload, 1) := by decide +kernel
theorem u113_34 {d : Nat} {ls : Lo} {st : List Va} {σ : Sg} {Q : Rs → Sg → Prop} {z : Int} {g j : Nat} : Wx d 113 34 ls (vi z :: vr g j :: st) σ Q ↔ On (ial σ g j z) (fun x => Wx d 113 35 ls (vi x :: st) σ Q) := u_iald d113_34
theorem d113_35 : decode (mB 113) 35 = .ok (.iadd, 1) := by decide +kernel
theorem u113_35 {d : Nat} {ls : Lo} {st : List Va} {σ : Sg} {Q : Rs → Sg → Prop} {a b : Int} : Wx d 113 35 ls (vi b :: vi a :: st) σ Q ↔ Wx d 113 36 ls (vi (a + b) :: st) σ Q := u_iadd d113_35
theorem d113_36 : decode (mB 113) 36 = .ok (.if_icmp .ge 28, 3) := by decide +kernel
theorem u113_36 {d : Nat} {ls : Lo} {st : List Va} {σ : Sg} {Q : Rs → Sg → Prop} {a b : Int} (h : -2147483648 ≤ a ∧ a ≤ 2147483647) (h2 : -2147483648 ≤ b ∧ b ≤ 2147483647) : Wx d 113 36 ls (vi b :: vi a :: st) σ Q ↔ if b ≤ a then Wx d 113 64 ls st σ Q else Wx d 113 39 ls st σ Q := u_icge d113_36 (by decide) h h2
theorem d113_39 : decode (mB 113) 39 = .ok (.iload_n 2, 1) := by decide +kernel
theorem u113_39 {d : Nat} {ls : Lo} {st : List Va} {σ : Sg} {Q : Rs → Sg → Prop} : Wx d 113 39 ls st σ Q ↔ Li (lget ls 2) (fun z => Wx d 113 40 ls (vi z :: st) σ Q) := u_iload_n d113_39
theorem d113_40 : decode (mB 113) 40 = .ok (.ifCond .ne 12, 3) := by decide +kernel
theorem u113_40 {d : Nat} {ls : Lo} {st : List Va} {σ : Sg} {Q : Rs → Sg → Prop} {a : Int} (h : -2147483648 ≤ a ∧ a ≤ 2147483647) : Wx d 113 40 ls (vi a :: st) σ Q ↔ if ¬ a = 0 then Wx d 113 52 ls st σ Q else Wx d 113 43 ls st σ Q := u_ifne d113_40 (by decide) h
theorem d113_43 : decode (mB 113) 43 = .ok (.aload_n 0, 1) := by decide +kernel
theorem u113_43 {d : Nat} {ls : Lo} {st : List Va} {σ : Sg} {Q : Rs → Sg → Prop} : Wx d 113 43 ls st σ Q ↔ Lr (lget ls 0) (fun z => Wx d 113 44 ls (.inr (.inl z) :: st) σ Q) := u_aload_n d113_43
theorem d113_44 : decode (mB 113) 44 = .ok (.getfield 80, 3) := by decide +kernel
theorem u113_44 {d : Nat} {ls : Lo} {st : List Va} {σ : Sg} {Q : Rs → Sg → Prop} {g j : Nat} : Wx d 113 44 ls (vr g j :: st) σ Q ↔ isO g j 7 ∧ Wx d 113 47 ls (fvv σ g j 31 :: st) σ Q := u_get (w := (7, 31)) d113_44 rfl
theorem d113_47 : decode (mB 113) 47 = .ok (.iload_n 3, 1) := by decide +kernel
theorem u113_47 {d : Nat} {ls : Lo} {st : List Va} {σ : Sg} {Q : Rs → Sg → Prop} : Wx d 113 47 ls st σ Q ↔ Li (lget ls 3) (fun z => Wx d 113 48 ls (vi z :: st) σ Q) := u_iload_n d113_47
theorem d113_48 : decode (mB 113) 48 = .ok (.baload, 1) := by decide +kernel
theorem u113_48 {d : Nat} {ls : Lo} {st : List Va} {σ : Sg} {Q : Rs → Sg → Prop} {z : Int} {g j : Nat} : Wx d 113 48 ls (vi z :: vr g j :: st) σ Q ↔ isA g j 1 z ∧ Wx d 113 49 ls (vi (σ g j z.toNat) :: st) σ Q := u_zald d113_48
theorem d113_49 : decode (mB 113) 49 = .ok (.ifCond .eq 7, 3) := by decide +kernel
theorem u113_49 {d : Nat} {ls : Lo} {st : List Va} {σ : Sg} {Q : Rs → Sg → Prop} {a : Int} (h : -2147483648 ≤ a ∧ a ≤ 2147483647) : Wx d 113 49 ls (vi a :: st) σ Q ↔ if a = 0 then Wx d 113 56 ls st σ Q else Wx d 113 52 ls st σ Q := u_ifeq d113_49 (by decide) h
theorem d113_52 : decode (mB 113) 52 = .ok (.iconst 1, 1) := by decide +kernel
theorem u113_52 {d : Nat} {ls : Lo} {st : List Va} {σ : Sg} {Q : Rs → Sg → Prop} : Wx d 113 52 ls st σ Q ↔ Wx d 113 53 ls (vi 1 :: st) σ Q := u_iconst d113_52
theorem d113_53 : decode (mB 113) 53 = .ok (.goto 4, 3) := by decide +kernel
theorem u113_53 {d : Nat} {ls : Lo} {st : List Va} {σ : Sg} {Q : Rs → Sg → Prop} : Wx d 113 53 ls st σ Q ↔ Wx d 113 57 ls st σ Q := u_goto d113_53 (by decide)
theorem d113_56 : decode (mB 113) 56 = .ok (.iconst 0, 1) := by decide +kernel
theorem u113_56 {d : Nat} {ls : Lo} {st : List Va} {σ : Sg} {Q : Rs → Sg → Prop} : Wx d 113 56 ls st σ Q ↔ Wx d 113 57 ls (vi 0 :: st) σ Q := u_iconst d113_56
theorem d113_57 : decode (mB 113) 57 = .ok (.istore_n 2, 1) := by decide +kernel
theorem u113_57 {d : Nat} {ls : Lo} {st : List Va} {σ : Sg} {Q : Rs → Sg → Prop} {z : Int} : Wx d 113 57 ls (vi z :: st) σ Q ↔ Wx d 113 58 (lset ls 2 (vi z)) st σ Q := u_istore_n d113_57 (by decide)
theorem d113_58 : decode (mB 113) 58 = .ok (.iinc 3 1, 3) := by decide +kernel
theorem u113_58 {d : Nat} {ls : Lo} {st : List Va} {σ : Sg} {Q : Rs → Sg → Prop} : Wx d 113 58 ls st σ Q ↔ Li (lget ls 3) (fun z => Wx d 113 61 (lset ls 3 (vi (z + 1))) st σ Q) := u_iinc d113_58 (by decide)
theorem d113_61 : decode (mB 113) 61 = .ok (.goto (-38), 3) := by decide +kernel
theorem u113_61 {d : Nat} {ls : Lo} {st : List Va} {σ : Sg} {Q : Rs → Sg → Prop} : Wx d 113 61 ls st σ Q ↔ Wx d 113 23 ls st σ Q := u_goto d113_61 (by decide)
theorem d113_64 : decode (mB 113) 64 = .ok (.iload_n 2, 1) := by decide +kernel
theorem u113_64 {d : Nat} {ls : Lo} {st : List Va} {σ : Sg} {Q : Rs → Sg → Prop} : Wx d 113 64 ls st σ Q ↔ Li (lget ls 2) (fun z => Wx d 113 65 ls (vi z :: st) σ Q) := u_iload_n d113_64
theorem d113_65 : decode (mB 113) 65 = .ok (.ifCond .ne 5, 3) := by decide +kernel
theorem u113_65 {d : Nat} {ls : Lo} {st : List Va} {σ : Sg} {Q : Rs → Sg → Prop} {a : Int} (h : -2147483648 ≤ a ∧ a ≤ 2147483647) : Wx d 113 65 ls (vi a :: st) σ Q ↔ if ¬ a = 0 then Wx d 113 70 ls st σ Q else Wx d 113 68 ls st σ Q := u_ifne d113_65 (by decide) h
theorem d113_68 : decode (mB 113) 68 = .ok (.iload_n 1, 1) := by decide +kernel
theorem u113_68 {d : Nat} {ls : Lo} {st : List Va} {σ : Sg} {Q : Rs → Sg → Prop} : Wx d 113 68 ls st σ Q ↔ Li (lget ls 1) (fun z => Wx d 113 69 ls (vi z :: st) σ Q) := u_iload_n d113_68
theorem d113_69 : decode (mB 113) 69 = .ok (.ireturn, 1) := by decide +kernel
theorem u113_69 {d : Nat} {ls : Lo} {σ : Sg} {Q : Rs → Sg → Prop} {z : Int} : Wx d 113 69 ls [vi z] σ Q ↔ Q (.inl (some (vi z))) σ := u_iret d113_69 rfl
theorem d113_70 : decode (mB 113) 70 = .ok (.iinc 1 1, 3) := by decide +kernel
theorem u113_70 {d : Nat} {ls : Lo} {st : List Va} {σ : Sg} {Q : Rs → Sg → Prop} : Wx d 113 70 ls st σ Q ↔ Li (lget ls 1) (fun z => Wx d 113 73 (lset ls 1 (vi (z + 1))) st σ Q) := u_iinc d113_70 (by decide)
theorem d113_73 : decode (mB 113) 73 = .ok (.goto (-71), 3) := by decide +kernel
theorem u113_73 {d : Nat} {ls : Lo} {st : List Va} {σ : Sg} {Q : Rs → Sg → Prop} : Wx d 113 73 ls st σ Q ↔ Wx d 113 2 ls st σ Q := u_goto d113_73 (by decide)
theorem d113_76 : decode (mB 113) 76 = .ok (.aload_n 0, 1) := by decide +kernel
theorem u113_76 {d : Nat} {ls : Lo} {st : List Va} {σ : Sg} {Q : Rs → Sg → Prop} : Wx d 113 76 ls st σ Q ↔ Lr (lget ls 0) (fun z => Wx d 113 77 ls (.inr (.inl z) :: st) σ Q) := u_aload_n d113_76
theorem d113_77 : decode (mB 113) 77 = .ok (.getfield 22, 3) := by decide +kernel
theorem u113_77 {d : Nat} {ls : Lo} {st : List Va} {σ : Sg} {Q : Rs → Sg → Prop} {g j : Nat} : Wx d 113 77 ls (vr g j :: st) σ Q ↔ isO g j 7 ∧ Wx d 113 80 ls (fvv σ g j 7 :: st) σ Q := u_get (w := (7, 7)) d113_77 rfl
theorem d113_80 : decode (mB 113) 80 = .ok (.ireturn, 1) := by decide +kernel
theorem u113_80 {d : Nat} {ls : Lo} {σ : Sg} {Q : Rs → Sg → Prop} {z : Int} : Wx d 113 80 ls [vi z] σ Q ↔ Q (.inl (some (vi z))) σ := u_iret d113_80 rfl
/-! 114: FiguredBassModel.lay(III)V -/
theorem d114_0 : decode (mB 114) 0 = .ok (.aload_n 0, 1) := by decide +kernel
theorem u114_0 {d : Nat} {ls : Lo} {st : List Va} {σ : Sg} {Q : Rs → Sg → Prop} : Wx d 114 0 ls st σ Q ↔ Lr (lget ls 0) (fun z => Wx d 114 1 ls (.inr (.inl z) :: st) σ Q) := u_aload_n d114_0
theorem d114_1 : decode (mB 114) 1 = .ok (.iload_n 1, 1) := by decide +kernel
theorem u114_1 {d : Nat} {ls : Lo} {st : List Va} {σ : Sg} {Q : Rs → Sg → Prop} : Wx d 114 1 ls st σ Q ↔ Li (lget ls 1) (fun z => Wx d 114 2 ls (vi z :: st) σ Q) := u_iload_n d114_1
theorem d114_2 : decode (mB 114) 2 = .ok (.iload_n 2, 1) := by decide +kernel
theorem u114_2 {d : Nat} {ls : Lo} {st : List Va} {σ : Sg} {Q : Rs → Sg → Prop} : Wx d 114 2 ls st σ Q ↔ Li (lget ls 2) (fun z => Wx d 114 3 ls (vi z :: st) σ Q) := u_iload_n d114_2
theorem d114_3 : decode (mB 114) 3 = .ok (.invokevirtual 214, 3) := by decide +kernel
theorem u114_3 {d : Nat} {ls : Lo} {st : List Va} {σ : Sg} {Q : Rs → Sg → Prop} {g j : Nat} {a1 a2 : Va} : Wx (d + 1) 114 3 ls (a2 :: a1 :: vr g j :: st) σ Q ↔ (isO g j 7 ∧ st.length ≤ 4 ∧ nlg [a2, a1] = true) ∧ Wm d 105 [vr g j, a1, a2] σ (Kc (d + 1) 114 6 ls st Q) := u_inv2 d114_3 rfl rfl rfl
theorem d114_6 : decode (mB 114) 6 = .ok (.iconst 0, 1) := by decide +kernel
theorem u114_6 {d : Nat} {ls : Lo} {st : List Va} {σ : Sg} {Q : Rs → Sg → Prop} : Wx d 114 6 ls st σ Q ↔ Wx d 114 7 ls (vi 0 :: st) σ Q := u_iconst d114_6
theorem d114_7 : decode (mB 114) 7 = .ok (.istore 4, 2) := by decide +kernel
theorem u114_7 {d : Nat} {ls : Lo} {st : List Va} {σ : Sg} {Q : Rs → Sg → Prop} {z : Int} : Wx d 114 7 ls (vi z :: st) σ Q ↔ Wx d 114 9 (lset ls 4 (vi z)) st σ Q := u_istore d114_7 (by decide)
theorem d114_9 : decode (mB 114) 9 = .ok (.iload 4, 2) := by decide +kernel
theorem u114_9 {d : Nat} {ls : Lo} {st : List Va} {σ : Sg} {Q : Rs → Sg → Prop} : Wx d 114 9 ls st σ Q ↔ Li (lget ls 4) (fun z => Wx d 114 11 ls (vi z :: st) σ Q) := u_iload d114_9
theorem d114_11 : decode (mB 114) 11 = .ok (.iconst 4, 1) := by decide +kernel
theorem u114_11 {d : Nat} {ls : Lo} {st : List Va} {σ : Sg} {Q : Rs → Sg → Prop} : Wx d 114 11 ls st σ Q ↔ Wx d 114 12 ls (vi 4 :: st) σ Q := u_iconst d114_11
theorem d114_12 : decode (mB 114) 12 = .ok (.if_icmp .ge 27, 3) := by decide +kernel
theorem u114_12 {d : Nat} {ls : Lo} {st : List Va} {σ : Sg} {Q : Rs → Sg → Prop} {a b : Int} (h : -2147483648 ≤ a ∧ a ≤ 2147483647) (h2 : -2147483648 ≤ b ∧ b ≤ 2147483647) : Wx d 114 12 ls (vi b :: vi a :: st) σ Q ↔ if b ≤ a then Wx d 114 39 ls st σ Q else Wx d 114 15 ls st σ Q := u_icge d114_12 (by decide) h h2
theorem d114_15 : decode (mB 114) 15 = .ok (.aload_n 0, 1) := by decide +kernel
theorem u114_15 {d : Nat} {ls : Lo} {st : List Va} {σ : Sg} {Q : Rs → Sg → Prop} : Wx d 114 15 ls st σ Q ↔ Lr (lget ls 0) (fun z => Wx d 114 16 ls (.inr (.inl z) :: st) σ Q) := u_aload_n d114_15
theorem d114_16 : decode (mB 114) 16 = .ok (.getfield 84, 3) := by decide +kernel
theorem u114_16 {d : Nat} {ls : Lo} {st : List Va} {σ : Sg} {Q : Rs → Sg → Prop} {g j : Nat} : Wx d 114 16 ls (vr g j :: st) σ Q ↔ isO g j 7 ∧ Wx d 114 19 ls (fvv σ g j 33 :: st) σ Q := u_get (w := (7, 33)) d114_16 rfl
theorem d114_19 : decode (mB 114) 19 = .ok (.iconst 4, 1) := by decide +kernel
theorem u114_19 {d : Nat} {ls : Lo} {st : List Va} {σ : Sg} {Q : Rs → Sg → Prop} : Wx d 114 19 ls st σ Q ↔ Wx d 114 20 ls (vi 4 :: st) σ Q := u_iconst d114_19
theorem d114_20 : decode (mB 114) 20 = .ok (.iload_n 1, 1) := by decide +kernel
theorem u114_20 {d : Nat} {ls : Lo} {st : List Va} {σ : Sg} {Q : Rs → Sg → Prop} : Wx d 114 20 ls st σ Q ↔ Li (lget ls 1) (fun z => Wx d 114 21 ls (vi z :: st) σ Q) := u_iload_n d114_20
theorem d114_21 : decode (mB 114) 21 = .ok (.imul, 1) := by decide +kernel
theorem u114_21 {d : Nat} {ls : Lo} {st : List Va} {σ : Sg} {Q : Rs → Sg → Prop} {a b : Int} : Wx d 114 21 ls (vi b :: vi a :: st) σ Q ↔ Wx d 114 22 ls (vi (a * b) :: st) σ Q := u_imul d114_21
theorem d114_22 : decode (mB 114) 22 = .ok (.iload 4, 2) := by decide +kernel
theorem u114_22 {d : Nat} {ls : Lo} {st : List Va} {σ : Sg} {Q : Rs → Sg → Prop} : Wx d 114 22 ls st σ Q ↔ Li (lget ls 4) (fun z => Wx d 114 24 ls (vi z :: st) σ Q) := u_iload d114_22
theorem d114_24 : decode (mB 114) 24 = .ok (.iadd, 1) := by decide +kernel
theorem u114_24 {d : Nat} {ls : Lo} {st : List Va} {σ : Sg} {Q : Rs → Sg → Prop} {a b : Int} : Wx d 114 24 ls (vi b :: vi a :: st) σ Q ↔ Wx d 114 25 ls (vi (a + b) :: st) σ Q := u_iadd d114_24
theorem d114_25 : decode (mB 114) 25 = .ok (.aload_n 0, 1) := by decide +kernel
theorem u114_25 {d : Nat} {ls : Lo} {st : List Va} {σ : Sg} {Q : Rs → Sg → Prop} : Wx d 114 25 ls st σ Q ↔ Lr (lget ls 0) (fun z => Wx d 114 26 ls (.inr (.inl z) :: st) σ Q) := u_aload_n d114_25
theorem d114_26 : decode (mB 114) 26 = .ok (.getfield 102, 3) := by decide +kernel
theorem u114_26 {d : Nat} {ls : Lo} {st : List Va} {σ : Sg} {Q : Rs → Sg → Prop} {g j : Nat} : Wx d 114 26 ls (vr g j :: st) σ Q ↔ isO g j 7 ∧ Wx d 114 29 ls (fvv σ g j 40 :: st) σ Q := u_get (w := (7, 40)) d114_26 rfl
theorem d114_29 : decode (mB 114) 29 = .ok (.iload 4, 2) := by decide +kernel
theorem u114_29 {d : Nat} {ls : Lo} {st : List Va} {σ : Sg} {Q : Rs → Sg → Prop} : Wx d 114 29 ls st σ Q ↔ Li (lget ls 4) (fun z => Wx d 114 31 ls (vi z :: st) σ Q) := u_iload d114_29
theorem d114_31 : decode (mB 114) 31 = .ok (.iaload, 1) := by decide +kernel
theorem u114_31 {d : Nat} {ls : Lo} {st : List Va} {σ : Sg} {Q : Rs → Sg → Prop} {z : Int} {g j : Nat} : Wx d 114 31 ls (vi z :: vr g j :: st) σ Q ↔ On (ial σ g j z) (fun x => Wx d 114 32 ls (vi x :: st) σ Q) := u_iald d114_31
theorem d114_32 : decode (mB 114) 32 = .ok (.iastore, 1) := by decide +kernel
theorem u114_32 {d : Nat} {ls : Lo} {st : List Va} {σ : Sg} {Q : Rs → Sg → Prop} {x z : Int} {g j : Nat} : Wx d 114 32 ls (vi x :: vi z :: vr g j :: st) σ Q ↔ isA g j 0 z ∧ Wx d 114 33 ls st (up σ g j z.toNat x) Q := u_iast d114_32
theorem d114_33 : decode (mB 114) 33 = .ok (.iinc 4 1, 3) := by decide +kernel
theorem u114_33 {d : Nat} {ls : Lo} {st : List Va} {σ : Sg} {Q : Rs → Sg → Prop} : Wx d 114 33 ls st σ Q ↔ Li (lget ls 4) (fun z => Wx d 114 36 (lset ls 4 (vi (z + 1))) st σ Q) := u_iinc d114_33 (by decide)
theorem d114_36 : decode (mB 114) 36 = .ok (.goto (-27), 3) := by decide +kernel
theorem u114_36 {d : Nat} {ls : Lo} {st : List Va} {σ : Sg} {Q : Rs → Sg → Prop} : Wx d 114 36 ls st σ Q ↔ Wx d 114 9 ls st σ Q := u_goto d114_36 (by decide)
theorem d114_39 : decode (mB 114) 39 = .ok (.aload_n 0, 1) := by decide +kernel
theorem u114_39 {d : Nat} {ls : Lo} {st : List Va} {σ : Sg} {Q : Rs → Sg → Prop} : Wx d 114 39 ls st σ Q ↔ Lr (lget ls 0) (fun z => Wx d 114 40 ls (.inr (.inl z) :: st) σ Q) := u_aload_n d114_39
theorem d114_40 : decode (mB 114) 40 = .ok (.getfield 87, 3) := by decide +kernel
theorem u114_40 {d : Nat} {ls : Lo} {st : List Va} {σ : Sg} {Q : Rs → Sg → Prop} {g j : Nat} : Wx d 114 40 ls (vr g j :: st) σ Q ↔ isO g j 7 ∧ Wx d 114 43 ls (fvv σ g j 34 :: st) σ Q := u_get (w := (7, 34)) d114_40 rfl
theorem d114_43 : decode (mB 114) 43 = .ok (.iload_n 1, 1) := by decide +kernel
theorem u114_43 {d : Nat} {ls : Lo} {st : List Va} {σ : Sg} {Q : Rs → Sg → Prop} : Wx d 114 43 ls st σ Q ↔ Li (lget ls 1) (fun z => Wx d 114 44 ls (vi z :: st) σ Q) := u_iload_n d114_43
theorem d114_44 : decode (mB 114) 44 = .ok (.iload_n 3, 1) := by decide +kernel
theorem u114_44 {d : Nat} {ls : Lo} {st : List Va} {σ : Sg} {Q : Rs → Sg → Prop} : Wx d 114 44 ls st σ Q ↔ Li (lget ls 3) (fun z => Wx d 114 45 ls (vi z :: st) σ Q) := u_iload_n d114_44
theorem d114_45 : decode (mB 114) 45 = .ok (.iastore, 1) := by decide +kernel
theorem u114_45 {d : Nat} {ls : Lo} {st : List Va} {σ : Sg} {Q : Rs → Sg → Prop} {x z : Int} {g j : Nat} : Wx d 114 45 ls (vi x :: vi z :: vr g j :: st) σ Q ↔ isA g j 0 z ∧ Wx d 114 46 ls st (up σ g j z.toNat x) Q := u_iast d114_45
theorem d114_46 : decode (mB 114) 46 = .ok (.return_, 1) := by decide +kernel
theorem u114_46 {d : Nat} {ls : Lo} {σ : Sg} {Q : Rs → Sg → Prop} : Wx d 114 46 ls [] σ Q ↔ Q (.inl none) σ := u_vret d114_46 rfl
/-! 115: FiguredBassModel.follow(II)I -/
theorem d115_0 : decode (mB 115) 0 = .ok (.aload_n 0, 1) := by decide +kernel
theorem u115_0 {d : Nat} {ls : Lo} {st : List Va} {σ : Sg} {Q : Rs → Sg → Prop} : Wx d 115 0 ls st σ Q ↔ Lr (lget ls 0) (fun z => Wx d 115 1 ls (.inr (.inl z) :: st) σ Q) := u_aload_n d115_0
theorem d115_1 : decode (mB 115) 1 = .ok (.iload_n 1, 1) := by decide +kernel
theorem u115_1 {d : Nat} {ls : Lo} {st : List Va} {σ : Sg} {Q : Rs → Sg → Prop} : Wx d 115 1 ls st σ Q ↔ Li (lget ls 1) (fun z => Wx d 115 2 ls (vi z :: st) σ Q) := u_iload_n d115_1
theorem d115_2 : decode (mB 115) 2 = .ok (.iload_n 2, 1) := by decide +kernel
theorem u115_2 {d : Nat} {ls : Lo} {st : List Va} {σ : Sg} {Q : Rs → Sg → Prop} : Wx d 115 2 ls st σ Q ↔ Li (lget ls 2) (fun z => Wx d 115 3 ls (vi z :: st) σ Q) := u_iload_n d115_2
theorem d115_3 : decode (mB 115) 3 = .ok (.invokevirtual 214, 3) := by decide +kernel
theorem u115_3 {d : Nat} {ls : Lo} {st : List Va} {σ : Sg} {Q : Rs → Sg → Prop} {g j : Nat} {a1 a2 : Va} : Wx (d + 1) 115 3 ls (a2 :: a1 :: vr g j :: st) σ Q ↔ (isO g j 7 ∧ st.length ≤ 4 ∧ nlg [a2, a1] = true) ∧ Wm d 105 [vr g j, a1, a2] σ (Kc (d + 1) 115 6 ls st Q) := u_inv2 d115_3 rfl rfl rfl
theorem d115_6 : decode (mB 115) 6 = .ok (.aload_n 0, 1) := by decide +kernel
theorem u115_6 {d : Nat} {ls : Lo} {st : List Va} {σ : Sg} {Q : Rs → Sg → Prop} : Wx d 115 6 ls st σ Q ↔ Lr (lget ls 0) (fun z => Wx d 115 7 ls (.inr (.inl z) :: st) σ Q) := u_aload_n d115_6
theorem d115_7 : decode (mB 115) 7 = .ok (.getfield 77, 3) := by decide +kernel
theorem u115_7 {d : Nat} {ls : Lo} {st : List Va} {σ : Sg} {Q : Rs → Sg → Prop} {g j : Nat} : Wx d 115 7 ls (vr g j :: st) σ Q ↔ isO g j 7 ∧ Wx d 115 10 ls (fvv σ g j 30 :: st) σ Q := u_get (w := (7, 30)) d115_7 rfl
theorem d115_10 : decode (mB 115) 10 = .ok (.iload_n 2, 1) := by decide +kernel
theorem u115_10 {d : Nat} {ls : Lo} {st : List Va} {σ : Sg} {Q : Rs → Sg → Prop} : Wx d 115 10 ls st σ Q ↔ Li (lget ls 2) (fun z => Wx d 115 11 ls (vi z :: st) σ Q) := u_iload_n d115_10
theorem d115_11 : decode (mB 115) 11 = .ok (.iaload, 1) := by decide +kernel
theorem u115_11 {d : Nat} {ls : Lo} {st : List Va} {σ : Sg} {Q : Rs → Sg → Prop} {z : Int} {g j : Nat} : Wx d 115 11 ls (vi z :: vr g j :: st) σ Q ↔ On (ial σ g j z) (fun x => Wx d 115 12 ls (vi x :: st) σ Q) := u_iald d115_11
theorem d115_12 : decode (mB 115) 12 = .ok (.aload_n 0, 1) := by decide +kernel
theorem u115_12 {d : Nat} {ls : Lo} {st : List Va} {σ : Sg} {Q : Rs → Sg → Prop} : Wx d 115 12 ls st σ Q ↔ Lr (lget ls 0) (fun z => Wx d 115 13 ls (.inr (.inl z) :: st) σ Q) := u_aload_n d115_12
theorem d115_13 : decode (mB 115) 13 = .ok (.iload_n 1, 1) := by decide +kernel
theorem u115_13 {d : Nat} {ls : Lo} {st : List Va} {σ : Sg} {Q : Rs → Sg → Prop} : Wx d 115 13 ls st σ Q ↔ Li (lget ls 1) (fun z => Wx d 115 14 ls (vi z :: st) σ Q) := u_iload_n d115_13
theorem d115_14 : decode (mB 115) 14 = .ok (.invokevirtual 217, 3) := by decide +kernel
theorem u115_14 {d : Nat} {ls : Lo} {st : List Va} {σ : Sg} {Q : Rs → Sg → Prop} {g j : Nat} {a1 : Va} : Wx (d + 1) 115 14 ls (a1 :: vr g j :: st) σ Q ↔ (isO g j 7 ∧ st.length ≤ 4 ∧ nlg [a1] = true) ∧ Wm d 110 [vr g j, a1] σ (Kc (d + 1) 115 17 ls st Q) := u_inv1 d115_14 rfl rfl rfl
theorem d115_17 : decode (mB 115) 17 = .ok (.isub, 1) := by decide +kernel
theorem u115_17 {d : Nat} {ls : Lo} {st : List Va} {σ : Sg} {Q : Rs → Sg → Prop} {a b : Int} : Wx d 115 17 ls (vi b :: vi a :: st) σ Q ↔ Wx d 115 18 ls (vi (a - b) :: st) σ Q := u_isub d115_17
theorem d115_18 : decode (mB 115) 18 = .ok (.istore_n 3, 1) := by decide +kernel
theorem u115_18 {d : Nat} {ls : Lo} {st : List Va} {σ : Sg} {Q : Rs → Sg → Prop} {z : Int} : Wx d 115 18 ls (vi z :: st) σ Q ↔ Wx d 115 19 (lset ls 3 (vi z)) st σ Q := u_istore_n d115_18 (by decide)
theorem d115_19 : decode (mB 115) 19 = .ok (.sipush 400, 3) := by decide +kernel
theorem u115_19 {d : Nat} {ls : Lo} {st : List Va} {σ : Sg} {Q : Rs → Sg → Prop} : Wx d 115 19 ls st σ Q ↔ Wx d 115 22 ls (vi 400 :: st) σ Q := u_sipush d115_19 (by decide)
theorem d115_22 : decode (mB 115) 22 = .ok (.iload_n 1, 1) := by decide +kernel
theorem u115_22 {d : Nat} {ls : Lo} {st : List Va} {σ : Sg} {Q : Rs → Sg → Prop} : Wx d 115 22 ls st σ Q ↔ Li (lget ls 1) (fun z => Wx d 115 23 ls (vi z :: st) σ Q) := u_iload_n d115_22
theorem d115_23 : decode (mB 115) 23 = .ok (.imul, 1) := by decide +kernel
theorem u115_23 {d : Nat} {ls : Lo} {st : List Va} {σ : Sg} {Q : Rs → Sg → Prop} {a b : Int} : Wx d 115 23 ls (vi b :: vi a :: st) σ Q ↔ Wx d 115 24 ls (vi (a * b) :: st) σ Q := u_imul d115_23
theorem d115_24 : decode (mB 115) 24 = .ok (.sipush 400, 3) := by decide +kernel
theorem u115_24 {d : Nat} {ls : Lo} {st : List Va} {σ : Sg} {Q : Rs → Sg → Prop} : Wx d 115 24 ls st σ Q ↔ Wx d 115 27 ls (vi 400 :: st) σ Q := u_sipush d115_24 (by decide)
theorem d115_27 : decode (mB 115) 27 = .ok (.iadd, 1) := by decide +kernel
theorem u115_27 {d : Nat} {ls : Lo} {st : List Va} {σ : Sg} {Q : Rs → Sg → Prop} {a b : Int} : Wx d 115 27 ls (vi b :: vi a :: st) σ Q ↔ Wx d 115 28 ls (vi (a + b) :: st) σ Q := u_iadd d115_27
theorem d115_28 : decode (mB 115) 28 = .ok (.istore 4, 2) := by decide +kernel
theorem u115_28 {d : Nat} {ls : Lo} {st : List Va} {σ : Sg} {Q : Rs → Sg → Prop} {z : Int} : Wx d 115 28 ls (vi z :: st) σ Q ↔ Wx d 115 30 (lset ls 4 (vi z)) st σ Q := u_istore d115_28 (by decide)
theorem d115_30 : decode (mB 115) 30 = .ok (.aload_n 0, 1) := by decide +kernel
theorem u115_30 {d : Nat} {ls : Lo} {st : List Va} {σ : Sg} {Q : Rs → Sg → Prop} : Wx d 115 30 ls st σ Q ↔ Lr (lget ls 0) (fun z => Wx d 115 31 ls (.inr (.inl z) :: st) σ Q) := u_aload_n d115_30
theorem d115_31 : decode (mB 115) 31 = .ok (.iload_n 1, 1) := by decide +kernel
theorem u115_31 {d : Nat} {ls : Lo} {st : List Va} {σ : Sg} {Q : Rs → Sg → Prop} : Wx d 115 31 ls st σ Q ↔ Li (lget ls 1) (fun z => Wx d 115 32 ls (vi z :: st) σ Q) := u_iload_n d115_31
theorem d115_32 : decode (mB 115) 32 = .ok (.iconst 1, 1) := by decide +kernel
theorem u115_32 {d : Nat} {ls : Lo} {st : List Va} {σ : Sg} {Q : Rs → Sg → Prop} : Wx d 115 32 ls st σ Q ↔ Wx d 115 33 ls (vi 1 :: st) σ Q := u_iconst d115_32
theorem d115_33 : decode (mB 115) 33 = .ok (.iadd, 1) := by decide +kernel
theorem u115_33 {d : Nat} {ls : Lo} {st : List Va} {σ : Sg} {Q : Rs → Sg → Prop} {a b : Int} : Wx d 115 33 ls (vi b :: vi a :: st) σ Q ↔ Wx d 115 34 ls (vi (a + b) :: st) σ Q := u_iadd d115_33
theorem d115_34 : decode (mB 115) 34 = .ok (.iload 4, 2) := by decide +kernel
theorem u115_34 {d : Nat} {ls : Lo} {st : List Va} {σ : Sg} {Q : Rs → Sg → Prop} : Wx d 115 34 ls st σ Q ↔ Li (lget ls 4) (fun z => Wx d 115 36 ls (vi z :: st) σ Q) := u_iload d115_34
theorem d115_36 : decode (mB 115) 36 = .ok (.invokevirtual 221, 3) := by decide +kernel
theorem u115_36 {d : Nat} {ls : Lo} {st : List Va} {σ : Sg} {Q : Rs → Sg → Prop} {g j : Nat} {a1 a2 : Va} : Wx (d + 1) 115 36 ls (a2 :: a1 :: vr g j :: st) σ Q ↔ (isO g j 7 ∧ st.length ≤ 4 ∧ nlg [a2, a1] = true) ∧ Wm d 106 [vr g j, a1, a2] σ (Kc (d + 1) 115 39 ls st Q) := u_inv2 d115_36 rfl rfl rfl
theorem d115_39 : decode (mB 115) 39 = .ok (.aload_n 0, 1) := by decide +kernel
theorem u115_39 {d : Nat} {ls : Lo} {st : List Va} {σ : Sg} {Q : Rs → Sg → Prop} : Wx d 115 39 ls st σ Q ↔ Lr (lget ls 0) (fun z => Wx d 115 40 ls (.inr (.inl z) :: st) σ Q) := u_aload_n d115_39
theorem d115_40 : decode (mB 115) 40 = .ok (.iload_n 1, 1) := by decide +kernel
theorem u115_40 {d : Nat} {ls : Lo} {st : List Va} {σ : Sg} {Q : Rs → Sg → Prop} : Wx d 115 40 ls st σ Q ↔ Li (lget ls 1) (fun z => Wx d 115 41 ls (vi z :: st) σ Q) := u_iload_n d115_40
theorem d115_41 : decode (mB 115) 41 = .ok (.invokevirtual 227, 3) := by decide +kernel
theorem u115_41 {d : Nat} {ls : Lo} {st : List Va} {σ : Sg} {Q : Rs → Sg → Prop} {g j : Nat} {a1 : Va} : Wx (d + 1) 115 41 ls (a1 :: vr g j :: st) σ Q ↔ (isO g j 7 ∧ st.length ≤ 4 ∧ nlg [a1] = true) ∧ Wm d 107 [vr g j, a1] σ (Kc (d + 1) 115 44 ls st Q) := u_inv1 d115_41 rfl rfl rfl
theorem d115_44 : decode (mB 115) 44 = .ok (.ifCond .eq 32, 3) := by decide +kernel
theorem u115_44 {d : Nat} {ls : Lo} {st : List Va} {σ : Sg} {Q : Rs → Sg → Prop} {a : Int} (h : -2147483648 ≤ a ∧ a ≤ 2147483647) : Wx d 115 44 ls (vi a :: st) σ Q ↔ if a = 0 then Wx d 115 76 ls st σ Q else Wx d 115 47 ls st σ Q := u_ifeq d115_44 (by decide) h
theorem d115_47 : decode (mB 115) 47 = .ok (.aload_n 0, 1) := by decide +kernel
theorem u115_47 {d : Nat} {ls : Lo} {st : List Va} {σ : Sg} {Q : Rs → Sg → Prop} : Wx d 115 47 ls st σ Q ↔ Lr (lget ls 0) (fun z => Wx d 115 48 ls (.inr (.inl z) :: st) σ Q) := u_aload_n d115_47
theorem d115_48 : decode (mB 115) 48 = .ok (.iconst 0, 1) := by decide +kernel
theorem u115_48 {d : Nat} {ls : Lo} {st : List Va} {σ : Sg} {Q : Rs → Sg → Prop} : Wx d 115 48 ls st σ Q ↔ Wx d 115 49 ls (vi 0 :: st) σ Q := u_iconst d115_48
theorem d115_49 : decode (mB 115) 49 = .ok (.invokevirtual 224, 3) := by decide +kernel
theorem u115_49 {d : Nat} {ls : Lo} {st : List Va} {σ : Sg} {Q : Rs → Sg → Prop} {g j : Nat} {a1 : Va} : Wx (d + 1) 115 49 ls (a1 :: vr g j :: st) σ Q ↔ (isO g j 7 ∧ st.length ≤ 4 ∧ nlg [a1] = true) ∧ Wm d 108 [vr g j, a1] σ (Kc (d + 1) 115 52 ls st Q) := u_inv1 d115_49 rfl rfl rfl
theorem d115_52 : decode (mB 115) 52 = .ok (.aload_n 0, 1) := by decide +kernel
theorem u115_52 {d : Nat} {ls : Lo} {st : List Va} {σ : Sg} {Q : Rs → Sg → Prop} : Wx d 115 52 ls st σ Q ↔ Lr (lget ls 0) (fun z => Wx d 115 53 ls (.inr (.inl z) :: st) σ Q) := u_aload_n d115_52
theorem d115_53 : decode (mB 115) 53 = .ok (.iconst 1, 1) := by decide +kernel
theorem u115_53 {d : Nat} {ls : Lo} {st : List Va} {σ : Sg} {Q : Rs → Sg → Prop} : Wx d 115 53 ls st σ Q ↔ Wx d 115 54 ls (vi 1 :: st) σ Q := u_iconst d115_53
theorem d115_54 : decode (mB 115) 54 = .ok (.invokevirtual 224, 3) := by decide +kernel
theorem u115_54 {d : Nat} {ls : Lo} {st : List Va} {σ : Sg} {Q : Rs → Sg → Prop} {g j : Nat} {a1 : Va} : Wx (d + 1) 115 54 ls (a1 :: vr g j :: st) σ Q ↔ (isO g j 7 ∧ st.length ≤ 4 ∧ nlg [a1] = true) ∧ Wm d 108 [vr g j, a1] σ (Kc (d + 1) 115 57 ls st Q) := u_inv1 d115_54 rfl rfl rfl
theorem d115_57 : decode (mB 115) 57 = .ok (.iadd, 1) := by decide +kernel
theorem u115_57 {d : Nat} {ls : Lo} {st : List Va} {σ : Sg} {Q : Rs → Sg → Prop} {a b : Int} : Wx d 115 57 ls (vi b :: vi a :: st) σ Q ↔ Wx d 115 58 ls (vi (a + b) :: st) σ Q := u_iadd d115_57
theorem d115_58 : decode (mB 115) 58 = .ok (.aload_n 0, 1) := by decide +kernel
theorem u115_58 {d : Nat} {ls : Lo} {st : List Va} {σ : Sg} {Q : Rs → Sg → Prop} : Wx d 115 58 ls st σ Q ↔ Lr (lget ls 0) (fun z => Wx d 115 59 ls (.inr (.inl z) :: st) σ Q) := u_aload_n d115_58
theorem d115_59 : decode (mB 115) 59 = .ok (.iconst 2, 1) := by decide +kernel
theorem u115_59 {d : Nat} {ls : Lo} {st : List Va} {σ : Sg} {Q : Rs → Sg → Prop} : Wx d 115 59 ls st σ Q ↔ Wx d 115 60 ls (vi 2 :: st) σ Q := u_iconst d115_59
theorem d115_60 : decode (mB 115) 60 = .ok (.invokevirtual 224, 3) := by decide +kernel
theorem u115_60 {d : Nat} {ls : Lo} {st : List Va} {σ : Sg} {Q : Rs → Sg → Prop} {g j : Nat} {a1 : Va} : Wx (d + 1) 115 60 ls (a1 :: vr g j :: st) σ Q ↔ (isO g j 7 ∧ st.length ≤ 4 ∧ nlg [a1] = true) ∧ Wm d 108 [vr g j, a1] σ (Kc (d + 1) 115 63 ls st Q) := u_inv1 d115_60 rfl rfl rfl
theorem d115_63 : decode (mB 115) 63 = .ok (.iadd, 1) := by decide +kernel
theorem u115_63 {d : Nat} {ls : Lo} {st : List Va} {σ : Sg} {Q : Rs → Sg → Prop} {a b : Int} : Wx d 115 63 ls (vi b :: vi a :: st) σ Q ↔ Wx d 115 64 ls (vi (a + b) :: st) σ Q := u_iadd d115_63
theorem d115_64 : decode (mB 115) 64 = .ok (.aload_n 0, 1) := by decide +kernel
theorem u115_64 {d : Nat} {ls : Lo} {st : List Va} {σ : Sg} {Q : Rs → Sg → Prop} : Wx d 115 64 ls st σ Q ↔ Lr (lget ls 0) (fun z => Wx d 115 65 ls (.inr (.inl z) :: st) σ Q) := u_aload_n d115_64
theorem d115_65 : decode (mB 115) 65 = .ok (.getfield 77, 3) := by decide +kernel
theorem u115_65 {d : Nat} {ls : Lo} {st : List Va} {σ : Sg} {Q : Rs → Sg → Prop} {g j : Nat} : Wx d 115 65 ls (vr g j :: st) σ Q ↔ isO g j 7 ∧ Wx d 115 68 ls (fvv σ g j 30 :: st) σ Q := u_get (w := (7, 30)) d115_65 rfl
theorem d115_68 : decode (mB 115) 68 = .ok (.iload 4, 2) := by decide +kernel
theorem u115_68 {d : Nat} {ls : Lo} {st : List Va} {σ : Sg} {Q : Rs → Sg → Prop} : Wx d 115 68 ls st σ Q ↔ Li (lget ls 4) (fun z => Wx d 115 70 ls (vi z :: st) σ Q) := u_iload d115_68
theorem d115_70 : decode (mB 115) 70 = .ok (.iaload, 1) := by decide +kernel
theorem u115_70 {d : Nat} {ls : Lo} {st : List Va} {σ : Sg} {Q : Rs → Sg → Prop} {z : Int} {g j : Nat} : Wx d 115 70 ls (vi z :: vr g j :: st) σ Q ↔ On (ial σ g j z) (fun x => Wx d 115 71 ls (vi x :: st) σ Q) := u_iald d115_70
theorem d115_71 : decode (mB 115) 71 = .ok (.iadd, 1) := by decide +kernel
theorem u115_71 {d : Nat} {ls : Lo} {st : List Va} {σ : Sg} {Q : Rs → Sg → Prop} {a b : Int} : Wx d 115 71 ls (vi b :: vi a :: st) σ Q ↔ Wx d 115 72 ls (vi (a + b) :: st) σ Q := u_iadd d115_71
theorem d115_72 : decode (mB 115) 72 = .ok (.iload_n 3, 1) := by decide +kernel
theorem u115_72 {d : Nat} {ls : Lo} {st : List Va} {σ : Sg} {Q : Rs → Sg → Prop} : Wx d 115 72 ls st σ Q ↔ Li (lget ls 3) (fun z => Wx d 115 73 ls (vi z :: st) σ Q) := u_iload_n d115_72
theorem d115_73 : decode (mB 115) 73 = .ok (.if_icmp .eq 18, 3) := by decide +kernel
theorem u115_73 {d : Nat} {ls : Lo} {st : List Va} {σ : Sg} {Q : Rs → Sg → Prop} {a b : Int} (h : -2147483648 ≤ a ∧ a ≤ 2147483647) (h2 : -2147483648 ≤ b ∧ b ≤ 2147483647) : Wx d 115 73 ls (vi b :: vi a :: st) σ Q ↔ if a = b then Wx d 115 91 ls st σ Q else Wx d 115 76 ls st σ Q := u_iceq d115_73 (by decide) h h2
theorem d115_76 : decode (mB 115) 76 = .ok (.iinc 4 1, 3) := by decide +kernel
theorem u115_76 {d : Nat} {ls : Lo} {st : List Va} {σ : Sg} {Q : Rs → Sg → Prop} : Wx d 115 76 ls st σ Q ↔ Li (lget ls 4) (fun z => Wx d 115 79 (lset ls 4 (vi (z + 1))) st σ Q) := u_iinc d115_76 (by decide)
theorem d115_79 : decode (mB 115) 79 = .ok (.aload_n 0, 1) := by decide +kernel
theorem u115_79 {d : Nat} {ls : Lo} {st : List Va} {σ : Sg} {Q : Rs → Sg → Prop} : Wx d 115 79 ls st σ Q ↔ Lr (lget ls 0) (fun z => Wx d 115 80 ls (.inr (.inl z) :: st) σ Q) := u_aload_n d115_79
theorem d115_80 : decode (mB 115) 80 = .ok (.iload_n 1, 1) := by decide +kernel
theorem u115_80 {d : Nat} {ls : Lo} {st : List Va} {σ : Sg} {Q : Rs → Sg → Prop} : Wx d 115 80 ls st σ Q ↔ Li (lget ls 1) (fun z => Wx d 115 81 ls (vi z :: st) σ Q) := u_iload_n d115_80
theorem d115_81 : decode (mB 115) 81 = .ok (.iconst 1, 1) := by decide +kernel
theorem u115_81 {d : Nat} {ls : Lo} {st : List Va} {σ : Sg} {Q : Rs → Sg → Prop} : Wx d 115 81 ls st σ Q ↔ Wx d 115 82 ls (vi 1 :: st) σ Q := u_iconst d115_81
theorem d115_82 : decode (mB 115) 82 = .ok (.iadd, 1) := by decide +kernel
theorem u115_82 {d : Nat} {ls : Lo} {st : List Va} {σ : Sg} {Q : Rs → Sg → Prop} {a b : Int} : Wx d 115 82 ls (vi b :: vi a :: st) σ Q ↔ Wx d 115 83 ls (vi (a + b) :: st) σ Q := u_iadd d115_82
theorem d115_83 : decode (mB 115) 83 = .ok (.iload 4, 2) := by decide +kernel
theorem u115_83 {d : Nat} {ls : Lo} {st : List Va} {σ : Sg} {Q : Rs → Sg → Prop} : Wx d 115 83 ls st σ Q ↔ Li (lget ls 4) (fun z => Wx d 115 85 ls (vi z :: st) σ Q) := u_iload d115_83
theorem d115_85 : decode (mB 115) 85 = .ok (.invokevirtual 221, 3) := by decide +kernel
theorem u115_85 {d : Nat} {ls : Lo} {st : List Va} {σ : Sg} {Q : Rs → Sg → Prop} {g j : Nat} {a1 a2 : Va} : Wx (d + 1) 115 85 ls (a2 :: a1 :: vr g j :: st) σ Q ↔ (isO g j 7 ∧ st.length ≤ 4 ∧ nlg [a2, a1] = true) ∧ Wm d 106 [vr g j, a1, a2] σ (Kc (d + 1) 115 88 ls st Q) := u_inv2 d115_85 rfl rfl rfl
theorem d115_88 : decode (mB 115) 88 = .ok (.goto (-49), 3) := by decide +kernel
theorem u115_88 {d : Nat} {ls : Lo} {st : List Va} {σ : Sg} {Q : Rs → Sg → Prop} : Wx d 115 88 ls st σ Q ↔ Wx d 115 39 ls st σ Q := u_goto d115_88 (by decide)
theorem d115_91 : decode (mB 115) 91 = .ok (.iload 4, 2) := by decide +kernel
theorem u115_91 {d : Nat} {ls : Lo} {st : List Va} {σ : Sg} {Q : Rs → Sg → Prop} : Wx d 115 91 ls st σ Q ↔ Li (lget ls 4) (fun z => Wx d 115 93 ls (vi z :: st) σ Q) := u_iload d115_91
theorem d115_93 : decode (mB 115) 93 = .ok (.ireturn, 1) := by decide +kernel
theorem u115_93 {d : Nat} {ls : Lo} {σ : Sg} {Q : Rs → Sg → Prop} {z : Int} : Wx d 115 93 ls [vi z] σ Q ↔ Q (.inl (some (vi z))) σ := u_iret d115_93 rfl
