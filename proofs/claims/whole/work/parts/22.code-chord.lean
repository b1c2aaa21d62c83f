/-! 29: FiguredBass$Chord.hasBass()Z -/
theorem d29_0 : decode (mB 29) 0 = .ok (.aload_n 0, 1) := by decide +kernel
theorem u29_0 {d : Nat} {ls : Lo} {st : List Va} {σ : Sg} {Q : Rs → Sg → Prop} : Wx d 29 0 ls st σ Q ↔ Lr (lget ls 0) (fun z => Wx d 29 1 ls (.inr (.inl z) :: st) σ Q) := u_aload_n d29_0
theorem d29_1 : decode (mB 29) 1 = .ok (.getfield 37, 3) := by decide +kernel
theorem u29_1 {d : Nat} {ls : Lo} {st : List Va} {σ : Sg} {Q : Rs → Sg → Prop} {g j : Nat} : Wx d 29 1 ls (vr g j :: st) σ Q ↔ isO g j 3 ∧ Wx d 29 4 ls (fvv σ g j 9 :: st) σ Q := u_get (w := (3, 9)) d29_1 rfl
theorem d29_4 : decode (mB 29) 4 = .ok (.iconst (-1), 1) := by decide +kernel
theorem u29_4 {d : Nat} {ls : Lo} {st : List Va} {σ : Sg} {Q : Rs → Sg → Prop} : Wx d 29 4 ls st σ Q ↔ Wx d 29 5 ls (vi (-1) :: st) σ Q := u_iconst d29_4
theorem d29_5 : decode (mB 29) 5 = .ok (.if_icmp .eq 7, 3) := by decide +kernel
theorem u29_5 {d : Nat} {ls : Lo} {st : List Va} {σ : Sg} {Q : Rs → Sg → Prop} {a b : Int} (h : -2147483648 ≤ a ∧ a ≤ 2147483647) (h2 : -2147483648 ≤ b ∧ b ≤ 2147483647) : Wx d 29 5 ls (vi b :: vi a :: st) σ Q ↔ if a = b then Wx d 29 12 ls st σ Q else Wx d 29 8 ls st σ Q := u_iceq d29_5 (by decide) h h2
theorem d29_8 : decode (mB 29) 8 = .ok (.iconst 1, 1) := by decide +kernel
theorem u29_8 {d : Nat} {ls : Lo} {st : List Va} {σ : Sg} {Q : Rs → Sg → Prop} : Wx d 29 8 ls st σ Q ↔ Wx d 29 9 ls (vi 1 :: st) σ Q := u_iconst d29_8
theorem d29_9 : decode (mB 29) 9 = .ok (.goto 4, 3) := by decide +kernel
theorem u29_9 {d : Nat} {ls : Lo} {st : List Va} {σ : Sg} {Q : Rs → Sg → Prop} : Wx d 29 9 ls st σ Q ↔ Wx d 29 13 ls st σ Q := u_goto d29_9 (by decide)
theorem d29_12 : decode (mB 29) 12 = .ok (.iconst 0, 1) := by decide +kernel
theorem u29_12 {d : Nat} {ls : Lo} {st : List Va} {σ : Sg} {Q : Rs → Sg → Prop} : Wx d 29 12 ls st σ Q ↔ Wx d 29 13 ls (vi 0 :: st) σ Q := u_iconst d29_12
theorem d29_13 : decode (mB 29) 13 = .ok (.ireturn, 1) := by decide +kernel
theorem u29_13 {d : Nat} {ls : Lo} {σ : Sg} {Q : Rs → Sg → Prop} {z : Int} (h : z = 0 ∨ z = 1) : Wx d 29 13 ls [vi z] σ Q ↔ Q (.inl (some (vi z))) σ := u_zret d29_13 rfl h
/-! 30: FiguredBass$Chord.writeBass(III)V -/
theorem d30_0 : decode (mB 30) 0 = .ok (.aload_n 0, 1) := by decide +kernel
theorem u30_0 {d : Nat} {ls : Lo} {st : List Va} {σ : Sg} {Q : Rs → Sg → Prop} : Wx d 30 0 ls st σ Q ↔ Lr (lget ls 0) (fun z => Wx d 30 1 ls (.inr (.inl z) :: st) σ Q) := u_aload_n d30_0
theorem d30_1 : decode (mB 30) 1 = .ok (.iload_n 1, 1) := by decide +kernel
theorem u30_1 {d : Nat} {ls : Lo} {st : List Va} {σ : Sg} {Q : Rs → Sg → Prop} : Wx d 30 1 ls st σ Q ↔ Li (lget ls 1) (fun z => Wx d 30 2 ls (vi z :: st) σ Q) := u_iload_n d30_1
theorem d30_2 : decode (mB 30) 2 = .ok (.putfield 50, 3) := by decide +kernel
theorem u30_2 {d : Nat} {ls : Lo} {st : List Va} {σ : Sg} {Q : Rs → Sg → Prop} {z : Int} {g j : Nat} : Wx d 30 2 ls (vi z :: vr g j :: st) σ Q ↔ (isO g j 3 ∧ rf g j 7 = none) ∧ Wx d 30 5 ls st (up σ g j 7 z) Q := u_put (w := (3, 7)) d30_2 rfl rfl rfl
theorem d30_5 : decode (mB 30) 5 = .ok (.aload_n 0, 1) := by decide +kernel
theorem u30_5 {d : Nat} {ls : Lo} {st : List Va} {σ : Sg} {Q : Rs → Sg → Prop} : Wx d 30 5 ls st σ Q ↔ Lr (lget ls 0) (fun z => Wx d 30 6 ls (.inr (.inl z) :: st) σ Q) := u_aload_n d30_5
theorem d30_6 : decode (mB 30) 6 = .ok (.iload_n 2, 1) := by decide +kernel
theorem u30_6 {d : Nat} {ls : Lo} {st : List Va} {σ : Sg} {Q : Rs → Sg → Prop} : Wx d 30 6 ls st σ Q ↔ Li (lget ls 2) (fun z => Wx d 30 7 ls (vi z :: st) σ Q) := u_iload_n d30_6
theorem d30_7 : decode (mB 30) 7 = .ok (.putfield 53, 3) := by decide +kernel
theorem u30_7 {d : Nat} {ls : Lo} {st : List Va} {σ : Sg} {Q : Rs → Sg → Prop} {z : Int} {g j : Nat} : Wx d 30 7 ls (vi z :: vr g j :: st) σ Q ↔ (isO g j 3 ∧ rf g j 8 = none) ∧ Wx d 30 10 ls st (up σ g j 8 z) Q := u_put (w := (3, 8)) d30_7 rfl rfl rfl
theorem d30_10 : decode (mB 30) 10 = .ok (.aload_n 0, 1) := by decide +kernel
theorem u30_10 {d : Nat} {ls : Lo} {st : List Va} {σ : Sg} {Q : Rs → Sg → Prop} : Wx d 30 10 ls st σ Q ↔ Lr (lget ls 0) (fun z => Wx d 30 11 ls (.inr (.inl z) :: st) σ Q) := u_aload_n d30_10
theorem d30_11 : decode (mB 30) 11 = .ok (.iload_n 3, 1) := by decide +kernel
theorem u30_11 {d : Nat} {ls : Lo} {st : List Va} {σ : Sg} {Q : Rs → Sg → Prop} : Wx d 30 11 ls st σ Q ↔ Li (lget ls 3) (fun z => Wx d 30 12 ls (vi z :: st) σ Q) := u_iload_n d30_11
theorem d30_12 : decode (mB 30) 12 = .ok (.putfield 37, 3) := by decide +kernel
theorem u30_12 {d : Nat} {ls : Lo} {st : List Va} {σ : Sg} {Q : Rs → Sg → Prop} {z : Int} {g j : Nat} : Wx d 30 12 ls (vi z :: vr g j :: st) σ Q ↔ (isO g j 3 ∧ rf g j 9 = none) ∧ Wx d 30 15 ls st (up σ g j 9 z) Q := u_put (w := (3, 9)) d30_12 rfl rfl rfl
theorem d30_15 : decode (mB 30) 15 = .ok (.aload_n 0, 1) := by decide +kernel
theorem u30_15 {d : Nat} {ls : Lo} {st : List Va} {σ : Sg} {Q : Rs → Sg → Prop} : Wx d 30 15 ls st σ Q ↔ Lr (lget ls 0) (fun z => Wx d 30 16 ls (.inr (.inl z) :: st) σ Q) := u_aload_n d30_15
theorem d30_16 : decode (mB 30) 16 = .ok (.getfield 12, 3) := by decide +kernel
theorem u30_16 {d : Nat} {ls : Lo} {st : List Va} {σ : Sg} {Q : Rs → Sg → Prop} {g j : Nat} : Wx d 30 16 ls (vr g j :: st) σ Q ↔ isO g j 3 ∧ Wx d 30 19 ls (fvv σ g j 0 :: st) σ Q := u_get (w := (3, 0)) d30_16 rfl
theorem d30_19 : decode (mB 30) 19 = .ok (.invokevirtual 56, 3) := by decide +kernel
theorem u30_19 {d : Nat} {ls : Lo} {st : List Va} {σ : Sg} {Q : Rs → Sg → Prop} {g j : Nat} : Wx (d + 1) 30 19 ls (vr g j :: st) σ Q ↔ (isO g j 2 ∧ st.length ≤ 4 ∧ nlg [] = true) ∧ Wm d 20 [vr g j] σ (Kc (d + 1) 30 22 ls st Q) := u_inv0 d30_19 rfl rfl rfl
theorem d30_22 : decode (mB 30) 22 = .ok (.return_, 1) := by decide +kernel
theorem u30_22 {d : Nat} {ls : Lo} {σ : Sg} {Q : Rs → Sg → Prop} : Wx d 30 22 ls [] σ Q ↔ Q (.inl none) σ := u_vret d30_22 rfl
/-! 31: FiguredBass$Chord.read(LFiguredBass$Key;)V -/
theorem d31_0 : decode (mB 31) 0 = .ok (.aload_n 0, 1) := by decide +kernel
theorem u31_0 {d : Nat} {ls : Lo} {st : List Va} {σ : Sg} {Q : Rs → Sg → Prop} : Wx d 31 0 ls st σ Q ↔ Lr (lget ls 0) (fun z => Wx d 31 1 ls (.inr (.inl z) :: st) σ Q) := u_aload_n d31_0
theorem d31_1 : decode (mB 31) 1 = .ok (.aload_n 1, 1) := by decide +kernel
theorem u31_1 {d : Nat} {ls : Lo} {st : List Va} {σ : Sg} {Q : Rs → Sg → Prop} : Wx d 31 1 ls st σ Q ↔ Lr (lget ls 1) (fun z => Wx d 31 2 ls (.inr (.inl z) :: st) σ Q) := u_aload_n d31_1
theorem d31_2 : decode (mB 31) 2 = .ok (.getfield 59, 3) := by decide +kernel
theorem u31_2 {d : Nat} {ls : Lo} {st : List Va} {σ : Sg} {Q : Rs → Sg → Prop} {g j : Nat} : Wx d 31 2 ls (vr g j :: st) σ Q ↔ isO g j 1 ∧ Wx d 31 5 ls (fvv σ g j 1 :: st) σ Q := u_get (w := (1, 1)) d31_2 rfl
theorem d31_5 : decode (mB 31) 5 = .ok (.putfield 64, 3) := by decide +kernel
theorem u31_5 {d : Nat} {ls : Lo} {st : List Va} {σ : Sg} {Q : Rs → Sg → Prop} {z : Int} {g j : Nat} : Wx d 31 5 ls (vi z :: vr g j :: st) σ Q ↔ (isO g j 3 ∧ rf g j 12 = none) ∧ Wx d 31 8 ls st (up σ g j 12 z) Q := u_put (w := (3, 12)) d31_5 rfl rfl rfl
theorem d31_8 : decode (mB 31) 8 = .ok (.aload_n 0, 1) := by decide +kernel
theorem u31_8 {d : Nat} {ls : Lo} {st : List Va} {σ : Sg} {Q : Rs → Sg → Prop} : Wx d 31 8 ls st σ Q ↔ Lr (lget ls 0) (fun z => Wx d 31 9 ls (.inr (.inl z) :: st) σ Q) := u_aload_n d31_8
theorem d31_9 : decode (mB 31) 9 = .ok (.iconst 0, 1) := by decide +kernel
theorem u31_9 {d : Nat} {ls : Lo} {st : List Va} {σ : Sg} {Q : Rs → Sg → Prop} : Wx d 31 9 ls st σ Q ↔ Wx d 31 10 ls (vi 0 :: st) σ Q := u_iconst d31_9
theorem d31_10 : decode (mB 31) 10 = .ok (.putfield 65, 3) := by decide +kernel
theorem u31_10 {d : Nat} {ls : Lo} {st : List Va} {σ : Sg} {Q : Rs → Sg → Prop} {z : Int} {g j : Nat} : Wx d 31 10 ls (vi z :: vr g j :: st) σ Q ↔ (isO g j 3 ∧ rf g j 17 = none ∧ (z = 0 ∨ z = 1)) ∧ Wx d 31 13 ls st (up σ g j 17 z) Q := u_putz (w := (3, 17)) d31_10 rfl rfl rfl
theorem d31_13 : decode (mB 31) 13 = .ok (.aload_n 0, 1) := by decide +kernel
theorem u31_13 {d : Nat} {ls : Lo} {st : List Va} {σ : Sg} {Q : Rs → Sg → Prop} : Wx d 31 13 ls st σ Q ↔ Lr (lget ls 0) (fun z => Wx d 31 14 ls (.inr (.inl z) :: st) σ Q) := u_aload_n d31_13
theorem d31_14 : decode (mB 31) 14 = .ok (.invokevirtual 69, 3) := by decide +kernel
theorem u31_14 {d : Nat} {ls : Lo} {st : List Va} {σ : Sg} {Q : Rs → Sg → Prop} {g j : Nat} : Wx (d + 1) 31 14 ls (vr g j :: st) σ Q ↔ (isO g j 3 ∧ st.length ≤ 4 ∧ nlg [] = true) ∧ Wm d 29 [vr g j] σ (Kc (d + 1) 31 17 ls st Q) := u_inv0 d31_14 rfl rfl rfl
theorem d31_17 : decode (mB 31) 17 = .ok (.ifCond .eq 23, 3) := by decide +kernel
theorem u31_17 {d : Nat} {ls : Lo} {st : List Va} {σ : Sg} {Q : Rs → Sg → Prop} {a : Int} (h : -2147483648 ≤ a ∧ a ≤ 2147483647) : Wx d 31 17 ls (vi a :: st) σ Q ↔ if a = 0 then Wx d 31 40 ls st σ Q else Wx d 31 20 ls st σ Q := u_ifeq d31_17 (by decide) h
theorem d31_20 : decode (mB 31) 20 = .ok (.aload_n 0, 1) := by decide +kernel
theorem u31_20 {d : Nat} {ls : Lo} {st : List Va} {σ : Sg} {Q : Rs → Sg → Prop} : Wx d 31 20 ls st σ Q ↔ Lr (lget ls 0) (fun z => Wx d 31 21 ls (.inr (.inl z) :: st) σ Q) := u_aload_n d31_20
theorem d31_21 : decode (mB 31) 21 = .ok (.getfield 18, 3) := by decide +kernel
theorem u31_21 {d : Nat} {ls : Lo} {st : List Va} {σ : Sg} {Q : Rs → Sg → Prop} {g j : Nat} : Wx d 31 21 ls (vr g j :: st) σ Q ↔ isO g j 3 ∧ Wx d 31 24 ls (fvv σ g j 1 :: st) σ Q := u_get (w := (3, 1)) d31_21 rfl
theorem d31_24 : decode (mB 31) 24 = .ok (.aload_n 0, 1) := by decide +kernel
theorem u31_24 {d : Nat} {ls : Lo} {st : List Va} {σ : Sg} {Q : Rs → Sg → Prop} : Wx d 31 24 ls st σ Q ↔ Lr (lget ls 0) (fun z => Wx d 31 25 ls (.inr (.inl z) :: st) σ Q) := u_aload_n d31_24
theorem d31_25 : decode (mB 31) 25 = .ok (.getfield 12, 3) := by decide +kernel
theorem u31_25 {d : Nat} {ls : Lo} {st : List Va} {σ : Sg} {Q : Rs → Sg → Prop} {g j : Nat} : Wx d 31 25 ls (vr g j :: st) σ Q ↔ isO g j 3 ∧ Wx d 31 28 ls (fvv σ g j 0 :: st) σ Q := u_get (w := (3, 0)) d31_25 rfl
theorem d31_28 : decode (mB 31) 28 = .ok (.invokevirtual 73, 3) := by decide +kernel
theorem u31_28 {d : Nat} {ls : Lo} {st : List Va} {σ : Sg} {Q : Rs → Sg → Prop} {g j : Nat} {a1 : Va} : Wx (d + 1) 31 28 ls (a1 :: vr g j :: st) σ Q ↔ (isO g j 2 ∧ st.length ≤ 4 ∧ nlg [a1] = true) ∧ Wm d 25 [vr g j, a1] σ (Kc (d + 1) 31 31 ls st Q) := u_inv1 d31_28 rfl rfl rfl
theorem d31_31 : decode (mB 31) 31 = .ok (.aload_n 0, 1) := by decide +kernel
theorem u31_31 {d : Nat} {ls : Lo} {st : List Va} {σ : Sg} {Q : Rs → Sg → Prop} : Wx d 31 31 ls st σ Q ↔ Lr (lget ls 0) (fun z => Wx d 31 32 ls (.inr (.inl z) :: st) σ Q) := u_aload_n d31_31
theorem d31_32 : decode (mB 31) 32 = .ok (.aload_n 1, 1) := by decide +kernel
theorem u31_32 {d : Nat} {ls : Lo} {st : List Va} {σ : Sg} {Q : Rs → Sg → Prop} : Wx d 31 32 ls st σ Q ↔ Lr (lget ls 1) (fun z => Wx d 31 33 ls (.inr (.inl z) :: st) σ Q) := u_aload_n d31_32
theorem d31_33 : decode (mB 31) 33 = .ok (.invokevirtual 77, 3) := by decide +kernel
theorem u31_33 {d : Nat} {ls : Lo} {st : List Va} {σ : Sg} {Q : Rs → Sg → Prop} {g j : Nat} {a1 : Va} : Wx (d + 1) 31 33 ls (a1 :: vr g j :: st) σ Q ↔ (isO g j 3 ∧ st.length ≤ 4 ∧ nlg [a1] = true) ∧ Wm d 32 [vr g j, a1] σ (Kc (d + 1) 31 36 ls st Q) := u_inv1 d31_33 rfl rfl rfl
theorem d31_36 : decode (mB 31) 36 = .ok (.aload_n 0, 1) := by decide +kernel
theorem u31_36 {d : Nat} {ls : Lo} {st : List Va} {σ : Sg} {Q : Rs → Sg → Prop} : Wx d 31 36 ls st σ Q ↔ Lr (lget ls 0) (fun z => Wx d 31 37 ls (.inr (.inl z) :: st) σ Q) := u_aload_n d31_36
theorem d31_37 : decode (mB 31) 37 = .ok (.invokevirtual 81, 3) := by decide +kernel
theorem u31_37 {d : Nat} {ls : Lo} {st : List Va} {σ : Sg} {Q : Rs → Sg → Prop} {g j : Nat} : Wx (d + 1) 31 37 ls (vr g j :: st) σ Q ↔ (isO g j 3 ∧ st.length ≤ 4 ∧ nlg [] = true) ∧ Wm d 34 [vr g j] σ (Kc (d + 1) 31 40 ls st Q) := u_inv0 d31_37 rfl rfl rfl
theorem d31_40 : decode (mB 31) 40 = .ok (.return_, 1) := by decide +kernel
theorem u31_40 {d : Nat} {ls : Lo} {σ : Sg} {Q : Rs → Sg → Prop} : Wx d 31 40 ls [] σ Q ↔ Q (.inl none) σ := u_vret d31_40 rfl
/-! 32: FiguredBass$Chord.readTones(LFiguredBass$Key;)V -/
theorem d32_0 : decode (mB 32) 0 = .ok (.iconst 0, 1) := by decide +kernel
theorem u32_0 {d : Nat} {ls : Lo} {st : List Va} {σ : Sg} {Q : Rs → Sg → Prop} : Wx d 32 0 ls st σ Q ↔ Wx d 32 1 ls (vi 0 :: st) σ Q := u_iconst d32_0
theorem d32_1 : decode (mB 32) 1 = .ok (.istore_n 2, 1) := by decide +kernel
theorem u32_1 {d : Nat} {ls : Lo} {st : List Va} {σ : Sg} {Q : Rs → Sg → Prop} {z : Int} : Wx d 32 1 ls (vi z :: st) σ Q ↔ Wx d 32 2 (lset ls 2 (vi z)) st σ Q := u_istore_n d32_1 (by decide)
theorem d32_2 : decode (mB 32) 2 = .ok (.iload_n 2, 1) := by decide +kernel
theorem u32_2 {d : Nat} {ls : Lo} {st : List Va} {σ : Sg} {Q : Rs → Sg → Prop} : Wx d 32 2 ls st σ Q ↔ Li (lget ls 2) (fun z => Wx d 32 3 ls (vi z :: st) σ Q) := u_iload_n d32_2
theorem d32_3 : decode (mB 32) 3 = .ok (.bipush 12, 2) := by decide +kernel
theorem u32_3 {d : Nat} {ls : Lo} {st : List Va} {σ : Sg} {Q : Rs → Sg → Prop} : Wx d 32 3 ls st σ Q ↔ Wx d 32 5 ls (vi 12 :: st) σ Q := u_bipush d32_3 (by decide)
theorem d32_5 : decode (mB 32) 5 = .ok (.if_icmp .ge 16, 3) := by decide +kernel
theorem u32_5 {d : Nat} {ls : Lo} {st : List Va} {σ : Sg} {Q : Rs → Sg → Prop} {a b : Int} (h : -2147483648 ≤ a ∧ a ≤ 2147483647) (h2 : -2147483648 ≤ b ∧ b ≤ 2147483647) : Wx d 32 5 ls (vi b :: vi a :: st) σ Q ↔ if b ≤ a then Wx d 32 21 ls st σ Q else Wx d 32 8 ls st σ Q := u_icge d32_5 (by decide) h h2
theorem d32_8 : decode (mB 32) 8 = .ok (.aload_n 0, 1) := by decide +kernel
theorem u32_8 {d : Nat} {ls : Lo} {st : List Va} {σ : Sg} {Q : Rs → Sg → Prop} : Wx d 32 8 ls st σ Q ↔ Lr (lget ls 0) (fun z => Wx d 32 9 ls (.inr (.inl z) :: st) σ Q) := u_aload_n d32_8
theorem d32_9 : decode (mB 32) 9 = .ok (.getfield 28, 3) := by decide +kernel
theorem u32_9 {d : Nat} {ls : Lo} {st : List Va} {σ : Sg} {Q : Rs → Sg → Prop} {g j : Nat} : Wx d 32 9 ls (vr g j :: st) σ Q ↔ isO g j 3 ∧ Wx d 32 12 ls (fvv σ g j 4 :: st) σ Q := u_get (w := (3, 4)) d32_9 rfl
theorem d32_12 : decode (mB 32) 12 = .ok (.iload_n 2, 1) := by decide +kernel
theorem u32_12 {d : Nat} {ls : Lo} {st : List Va} {σ : Sg} {Q : Rs → Sg → Prop} : Wx d 32 12 ls st σ Q ↔ Li (lget ls 2) (fun z => Wx d 32 13 ls (vi z :: st) σ Q) := u_iload_n d32_12
theorem d32_13 : decode (mB 32) 13 = .ok (.iconst (-1), 1) := by decide +kernel
theorem u32_13 {d : Nat} {ls : Lo} {st : List Va} {σ : Sg} {Q : Rs → Sg → Prop} : Wx d 32 13 ls st σ Q ↔ Wx d 32 14 ls (vi (-1) :: st) σ Q := u_iconst d32_13
theorem d32_14 : decode (mB 32) 14 = .ok (.iastore, 1) := by decide +kernel
theorem u32_14 {d : Nat} {ls : Lo} {st : List Va} {σ : Sg} {Q : Rs → Sg → Prop} {x z : Int} {g j : Nat} : Wx d 32 14 ls (vi x :: vi z :: vr g j :: st) σ Q ↔ isA g j 0 z ∧ Wx d 32 15 ls st (up σ g j z.toNat x) Q := u_iast d32_14
theorem d32_15 : decode (mB 32) 15 = .ok (.iinc 2 1, 3) := by decide +kernel
theorem u32_15 {d : Nat} {ls : Lo} {st : List Va} {σ : Sg} {Q : Rs → Sg → Prop} : Wx d 32 15 ls st σ Q ↔ Li (lget ls 2) (fun z => Wx d 32 18 (lset ls 2 (vi (z + 1))) st σ Q) := u_iinc d32_15 (by decide)
theorem d32_18 : decode (mB 32) 18 = .ok (.goto (-16), 3) := by decide +kernel
theorem u32_18 {d : Nat} {ls : Lo} {st : List Va} {σ : Sg} {Q : Rs → Sg → Prop} : Wx d 32 18 ls st σ Q ↔ Wx d 32 2 ls st σ Q := u_goto d32_18 (by decide)
theorem d32_21 : decode (mB 32) 21 = .ok (.aload_n 0, 1) := by decide +kernel
theorem u32_21 {d : Nat} {ls : Lo} {st : List Va} {σ : Sg} {Q : Rs → Sg → Prop} : Wx d 32 21 ls st σ Q ↔ Lr (lget ls 0) (fun z => Wx d 32 22 ls (.inr (.inl z) :: st) σ Q) := u_aload_n d32_21
theorem d32_22 : decode (mB 32) 22 = .ok (.iconst 1, 1) := by decide +kernel
theorem u32_22 {d : Nat} {ls : Lo} {st : List Va} {σ : Sg} {Q : Rs → Sg → Prop} : Wx d 32 22 ls st σ Q ↔ Wx d 32 23 ls (vi 1 :: st) σ Q := u_iconst d32_22
theorem d32_23 : decode (mB 32) 23 = .ok (.putfield 84, 3) := by decide +kernel
theorem u32_23 {d : Nat} {ls : Lo} {st : List Va} {σ : Sg} {Q : Rs → Sg → Prop} {z : Int} {g j : Nat} : Wx d 32 23 ls (vi z :: vr g j :: st) σ Q ↔ (isO g j 3 ∧ rf g j 15 = none ∧ (z = 0 ∨ z = 1)) ∧ Wx d 32 26 ls st (up σ g j 15 z) Q := u_putz (w := (3, 15)) d32_23 rfl rfl rfl
theorem d32_26 : decode (mB 32) 26 = .ok (.aload_n 0, 1) := by decide +kernel
theorem u32_26 {d : Nat} {ls : Lo} {st : List Va} {σ : Sg} {Q : Rs → Sg → Prop} : Wx d 32 26 ls st σ Q ↔ Lr (lget ls 0) (fun z => Wx d 32 27 ls (.inr (.inl z) :: st) σ Q) := u_aload_n d32_26
theorem d32_27 : decode (mB 32) 27 = .ok (.iconst 0, 1) := by decide +kernel
theorem u32_27 {d : Nat} {ls : Lo} {st : List Va} {σ : Sg} {Q : Rs → Sg → Prop} : Wx d 32 27 ls st σ Q ↔ Wx d 32 28 ls (vi 0 :: st) σ Q := u_iconst d32_27
theorem d32_28 : decode (mB 32) 28 = .ok (.putfield 87, 3) := by decide +kernel
theorem u32_28 {d : Nat} {ls : Lo} {st : List Va} {σ : Sg} {Q : Rs → Sg → Prop} {z : Int} {g j : Nat} : Wx d 32 28 ls (vi z :: vr g j :: st) σ Q ↔ (isO g j 3 ∧ rf g j 10 = none) ∧ Wx d 32 31 ls st (up σ g j 10 z) Q := u_put (w := (3, 10)) d32_28 rfl rfl rfl
theorem d32_31 : decode (mB 32) 31 = .ok (.aload_n 0, 1) := by decide +kernel
theorem u32_31 {d : Nat} {ls : Lo} {st : List Va} {σ : Sg} {Q : Rs → Sg → Prop} : Wx d 32 31 ls st σ Q ↔ Lr (lget ls 0) (fun z => Wx d 32 32 ls (.inr (.inl z) :: st) σ Q) := u_aload_n d32_31
theorem d32_32 : decode (mB 32) 32 = .ok (.aload_n 0, 1) := by decide +kernel
theorem u32_32 {d : Nat} {ls : Lo} {st : List Va} {σ : Sg} {Q : Rs → Sg → Prop} : Wx d 32 32 ls st σ Q ↔ Lr (lget ls 0) (fun z => Wx d 32 33 ls (.inr (.inl z) :: st) σ Q) := u_aload_n d32_32
theorem d32_33 : decode (mB 32) 33 = .ok (.getfield 50, 3) := by decide +kernel
theorem u32_33 {d : Nat} {ls : Lo} {st : List Va} {σ : Sg} {Q : Rs → Sg → Prop} {g j : Nat} : Wx d 32 33 ls (vr g j :: st) σ Q ↔ isO g j 3 ∧ Wx d 32 36 ls (fvv σ g j 7 :: st) σ Q := u_get (w := (3, 7)) d32_33 rfl
theorem d32_36 : decode (mB 32) 36 = .ok (.aload_n 0, 1) := by decide +kernel
theorem u32_36 {d : Nat} {ls : Lo} {st : List Va} {σ : Sg} {Q : Rs → Sg → Prop} : Wx d 32 36 ls st σ Q ↔ Lr (lget ls 0) (fun z => Wx d 32 37 ls (.inr (.inl z) :: st) σ Q) := u_aload_n d32_36
theorem d32_37 : decode (mB 32) 37 = .ok (.getfield 53, 3) := by decide +kernel
theorem u32_37 {d : Nat} {ls : Lo} {st : List Va} {σ : Sg} {Q : Rs → Sg → Prop} {g j : Nat} : Wx d 32 37 ls (vr g j :: st) σ Q ↔ isO g j 3 ∧ Wx d 32 40 ls (fvv σ g j 8 :: st) σ Q := u_get (w := (3, 8)) d32_37 rfl
theorem d32_40 : decode (mB 32) 40 = .ok (.invokevirtual 90, 3) := by decide +kernel
theorem u32_40 {d : Nat} {ls : Lo} {st : List Va} {σ : Sg} {Q : Rs → Sg → Prop} {g j : Nat} {a1 a2 : Va} : Wx (d + 1) 32 40 ls (a2 :: a1 :: vr g j :: st) σ Q ↔ (isO g j 3 ∧ st.length ≤ 4 ∧ nlg [a2, a1] = true) ∧ Wm d 33 [vr g j, a1, a2] σ (Kc (d + 1) 32 43 ls st Q) := u_inv2 d32_40 rfl rfl rfl
theorem d32_43 : decode (mB 32) 43 = .ok (.iconst 0, 1) := by decide +kernel
theorem u32_43 {d : Nat} {ls : Lo} {st : List Va} {σ : Sg} {Q : Rs → Sg → Prop} : Wx d 32 43 ls st σ Q ↔ Wx d 32 44 ls (vi 0 :: st) σ Q := u_iconst d32_43
theorem d32_44 : decode (mB 32) 44 = .ok (.istore_n 2, 1) := by decide +kernel
theorem u32_44 {d : Nat} {ls : Lo} {st : List Va} {σ : Sg} {Q : Rs → Sg → Prop} {z : Int} : Wx d 32 44 ls (vi z :: st) σ Q ↔ Wx d 32 45 (lset ls 2 (vi z)) st σ Q := u_istore_n d32_44 (by decide)
theorem d32_45 : decode (mB 32) 45 = .ok (.iload_n 2, 1) := by decide +kernel
theorem u32_45 {d : Nat} {ls : Lo} {st : List Va} {σ : Sg} {Q : Rs → Sg → Prop} : Wx d 32 45 ls st σ Q ↔ Li (lget ls 2) (fun z => Wx d 32 46 ls (vi z :: st) σ Q) := u_iload_n d32_45
theorem d32_46 : decode (mB 32) 46 = .ok (.aload_n 0, 1) := by decide +kernel
theorem u32_46 {d : Nat} {ls : Lo} {st : List Va} {σ : Sg} {Q : Rs → Sg → Prop} : Wx d 32 46 ls st σ Q ↔ Lr (lget ls 0) (fun z => Wx d 32 47 ls (.inr (.inl z) :: st) σ Q) := u_aload_n d32_46
theorem d32_47 : decode (mB 32) 47 = .ok (.getfield 18, 3) := by decide +kernel
theorem u32_47 {d : Nat} {ls : Lo} {st : List Va} {σ : Sg} {Q : Rs → Sg → Prop} {g j : Nat} : Wx d 32 47 ls (vr g j :: st) σ Q ↔ isO g j 3 ∧ Wx d 32 50 ls (fvv σ g j 1 :: st) σ Q := u_get (w := (3, 1)) d32_47 rfl
theorem d32_50 : decode (mB 32) 50 = .ok (.getfield 94, 3) := by decide +kernel
theorem u32_50 {d : Nat} {ls : Lo} {st : List Va} {σ : Sg} {Q : Rs → Sg → Prop} {g j : Nat} : Wx d 32 50 ls (vr g j :: st) σ Q ↔ isO g j 2 ∧ Wx d 32 53 ls (fvv σ g j 2 :: st) σ Q := u_get (w := (2, 2)) d32_50 rfl
theorem d32_53 : decode (mB 32) 53 = .ok (.if_icmp .ge 48, 3) := by decide +kernel
theorem u32_53 {d : Nat} {ls : Lo} {st : List Va} {σ : Sg} {Q : Rs → Sg → Prop} {a b : Int} (h : -2147483648 ≤ a ∧ a ≤ 2147483647) (h2 : -2147483648 ≤ b ∧ b ≤ 2147483647) : Wx d 32 53 ls (vi b :: vi a :: st) σ Q ↔ if b ≤ a then Wx d 32 101 ls st σ Q else Wx d 32 56 ls st σ Q := u_icge d32_53 (by decide) h h2
theorem d32_56 : decode (mB 32) 56 = .ok (.aload_n 0, 1) := by decide +kernel
theorem u32_56 {d : Nat} {ls : Lo} {st : List Va} {σ : Sg} {Q : Rs → Sg → Prop} : Wx d 32 56 ls st σ Q ↔ Lr (lget ls 0) (fun z => Wx d 32 57 ls (.inr (.inl z) :: st) σ Q) := u_aload_n d32_56
theorem d32_57 : decode (mB 32) 57 = .ok (.getfield 50, 3) := by decide +kernel
theorem u32_57 {d : Nat} {ls : Lo} {st : List Va} {σ : Sg} {Q : Rs → Sg → Prop} {g j : Nat} : Wx d 32 57 ls (vr g j :: st) σ Q ↔ isO g j 3 ∧ Wx d 32 60 ls (fvv σ g j 7 :: st) σ Q := u_get (w := (3, 7)) d32_57 rfl
theorem d32_60 : decode (mB 32) 60 = .ok (.aload_n 0, 1) := by decide +kernel
theorem u32_60 {d : Nat} {ls : Lo} {st : List Va} {σ : Sg} {Q : Rs → Sg → Prop} : Wx d 32 60 ls st σ Q ↔ Lr (lget ls 0) (fun z => Wx d 32 61 ls (.inr (.inl z) :: st) σ Q) := u_aload_n d32_60
theorem d32_61 : decode (mB 32) 61 = .ok (.getfield 18, 3) := by decide +kernel
theorem u32_61 {d : Nat} {ls : Lo} {st : List Va} {σ : Sg} {Q : Rs → Sg → Prop} {g j : Nat} : Wx d 32 61 ls (vr g j :: st) σ Q ↔ isO g j 3 ∧ Wx d 32 64 ls (fvv σ g j 1 :: st) σ Q := u_get (w := (3, 1)) d32_61 rfl
theorem d32_64 : decode (mB 32) 64 = .ok (.getfield 97, 3) := by decide +kernel
theorem u32_64 {d : Nat} {ls : Lo} {st : List Va} {σ : Sg} {Q : Rs → Sg → Prop} {g j : Nat} : Wx d 32 64 ls (vr g j :: st) σ Q ↔ isO g j 2 ∧ Wx d 32 67 ls (fvv σ g j 0 :: st) σ Q := u_get (w := (2, 0)) d32_64 rfl
theorem d32_67 : decode (mB 32) 67 = .ok (.iload_n 2, 1) := by decide +kernel
theorem u32_67 {d : Nat} {ls : Lo} {st : List Va} {σ : Sg} {Q : Rs → Sg → Prop} : Wx d 32 67 ls st σ Q ↔ Li (lget ls 2) (fun z => Wx d 32 68 ls (vi z :: st) σ Q) := u_iload_n d32_67
theorem d32_68 : decode (mB 32) 68 = .ok (.iaload, 1) := by decide +kernel
theorem u32_68 {d : Nat} {ls : Lo} {st : List Va} {σ : Sg} {Q : Rs → Sg → Prop} {z : Int} {g j : Nat} : Wx d 32 68 ls (vi z :: vr g j :: st) σ Q ↔ On (ial σ g j z) (fun x => Wx d 32 69 ls (vi x :: st) σ Q) := u_iald d32_68
theorem d32_69 : decode (mB 32) 69 = .ok (.iadd, 1) := by decide +kernel
theorem u32_69 {d : Nat} {ls : Lo} {st : List Va} {σ : Sg} {Q : Rs → Sg → Prop} {a b : Int} : Wx d 32 69 ls (vi b :: vi a :: st) σ Q ↔ Wx d 32 70 ls (vi (a + b) :: st) σ Q := u_iadd d32_69
theorem d32_70 : decode (mB 32) 70 = .ok (.iconst 1, 1) := by decide +kernel
theorem u32_70 {d : Nat} {ls : Lo} {st : List Va} {σ : Sg} {Q : Rs → Sg → Prop} : Wx d 32 70 ls st σ Q ↔ Wx d 32 71 ls (vi 1 :: st) σ Q := u_iconst d32_70
theorem d32_71 : decode (mB 32) 71 = .ok (.isub, 1) := by decide +kernel
theorem u32_71 {d : Nat} {ls : Lo} {st : List Va} {σ : Sg} {Q : Rs → Sg → Prop} {a b : Int} : Wx d 32 71 ls (vi b :: vi a :: st) σ Q ↔ Wx d 32 72 ls (vi (a - b) :: st) σ Q := u_isub d32_71
theorem d32_72 : decode (mB 32) 72 = .ok (.bipush 7, 2) := by decide +kernel
theorem u32_72 {d : Nat} {ls : Lo} {st : List Va} {σ : Sg} {Q : Rs → Sg → Prop} : Wx d 32 72 ls st σ Q ↔ Wx d 32 74 ls (vi 7 :: st) σ Q := u_bipush d32_72 (by decide)
theorem d32_74 : decode (mB 32) 74 = .ok (.irem, 1) := by decide +kernel
theorem u32_74 {d : Nat} {ls : Lo} {st : List Va} {σ : Sg} {Q : Rs → Sg → Prop} {a b : Int} (h : (-2147483648 ≤ a ∧ a ≤ 2147483647) ∧ 0 < b ∧ b ≤ 2147483647) : Wx d 32 74 ls (vi b :: vi a :: st) σ Q ↔ Wx d 32 75 ls (vi (Int.tmod a b) :: st) σ Q := u_irem d32_74 h
theorem d32_75 : decode (mB 32) 75 = .ok (.istore_n 3, 1) := by decide +kernel
theorem u32_75 {d : Nat} {ls : Lo} {st : List Va} {σ : Sg} {Q : Rs → Sg → Prop} {z : Int} : Wx d 32 75 ls (vi z :: st) σ Q ↔ Wx d 32 76 (lset ls 3 (vi z)) st σ Q := u_istore_n d32_75 (by decide)
theorem d32_76 : decode (mB 32) 76 = .ok (.aload_n 0, 1) := by decide +kernel
theorem u32_76 {d : Nat} {ls : Lo} {st : List Va} {σ : Sg} {Q : Rs → Sg → Prop} : Wx d 32 76 ls st σ Q ↔ Lr (lget ls 0) (fun z => Wx d 32 77 ls (.inr (.inl z) :: st) σ Q) := u_aload_n d32_76
theorem d32_77 : decode (mB 32) 77 = .ok (.iload_n 3, 1) := by decide +kernel
theorem u32_77 {d : Nat} {ls : Lo} {st : List Va} {σ : Sg} {Q : Rs → Sg → Prop} : Wx d 32 77 ls st σ Q ↔ Li (lget ls 3) (fun z => Wx d 32 78 ls (vi z :: st) σ Q) := u_iload_n d32_77
theorem d32_78 : decode (mB 32) 78 = .ok (.aload_n 1, 1) := by decide +kernel
theorem u32_78 {d : Nat} {ls : Lo} {st : List Va} {σ : Sg} {Q : Rs → Sg → Prop} : Wx d 32 78 ls st σ Q ↔ Lr (lget ls 1) (fun z => Wx d 32 79 ls (.inr (.inl z) :: st) σ Q) := u_aload_n d32_78
theorem d32_79 : decode (mB 32) 79 = .ok (.iload_n 3, 1) := by decide +kernel
theorem u32_79 {d : Nat} {ls : Lo} {st : List Va} {σ : Sg} {Q : Rs → Sg → Prop} : Wx d 32 79 ls st σ Q ↔ Li (lget ls 3) (fun z => Wx d 32 80 ls (vi z :: st) σ Q) := u_iload_n d32_79
theorem d32_80 : decode (mB 32) 80 = .ok (.aload_n 0, 1) := by decide +kernel
theorem u32_80 {d : Nat} {ls : Lo} {st : List Va} {σ : Sg} {Q : Rs → Sg → Prop} : Wx d 32 80 ls st σ Q ↔ Lr (lget ls 0) (fun z => Wx d 32 81 ls (.inr (.inl z) :: st) σ Q) := u_aload_n d32_80
theorem d32_81 : decode (mB 32) 81 = .ok (.getfield 18, 3) := by decide +kernel
theorem u32_81 {d : Nat} {ls : Lo} {st : List Va} {σ : Sg} {Q : Rs → Sg → Prop} {g j : Nat} : Wx d 32 81 ls (vr g j :: st) σ Q ↔ isO g j 3 ∧ Wx d 32 84 ls (fvv σ g j 1 :: st) σ Q := u_get (w := (3, 1)) d32_81 rfl
theorem d32_84 : decode (mB 32) 84 = .ok (.getfield 100, 3) := by decide +kernel
theorem u32_84 {d : Nat} {ls : Lo} {st : List Va} {σ : Sg} {Q : Rs → Sg → Prop} {g j : Nat} : Wx d 32 84 ls (vr g j :: st) σ Q ↔ isO g j 2 ∧ Wx d 32 87 ls (fvv σ g j 1 :: st) σ Q := u_get (w := (2, 1)) d32_84 rfl
theorem d32_87 : decode (mB 32) 87 = .ok (.iload_n 2, 1) := by decide +kernel
theorem u32_87 {d : Nat} {ls : Lo} {st : List Va} {σ : Sg} {Q : Rs → Sg → Prop} : Wx d 32 87 ls st σ Q ↔ Li (lget ls 2) (fun z => Wx d 32 88 ls (vi z :: st) σ Q) := u_iload_n d32_87
theorem d32_88 : decode (mB 32) 88 = .ok (.iaload, 1) := by decide +kernel
theorem u32_88 {d : Nat} {ls : Lo} {st : List Va} {σ : Sg} {Q : Rs → Sg → Prop} {z : Int} {g j : Nat} : Wx d 32 88 ls (vi z :: vr g j :: st) σ Q ↔ On (ial σ g j z) (fun x => Wx d 32 89 ls (vi x :: st) σ Q) := u_iald d32_88
theorem d32_89 : decode (mB 32) 89 = .ok (.invokevirtual 103, 3) := by decide +kernel
theorem u32_89 {d : Nat} {ls : Lo} {st : List Va} {σ : Sg} {Q : Rs → Sg → Prop} {g j : Nat} {a1 a2 : Va} : Wx (d + 1) 32 89 ls (a2 :: a1 :: vr g j :: st) σ Q ↔ (isO g j 1 ∧ st.length ≤ 4 ∧ nlg [a2, a1] = true) ∧ Wm d 19 [vr g j, a1, a2] σ (Kc (d + 1) 32 92 ls st Q) := u_inv2 d32_89 rfl rfl rfl
theorem d32_92 : decode (mB 32) 92 = .ok (.invokevirtual 90, 3) := by decide +kernel
theorem u32_92 {d : Nat} {ls : Lo} {st : List Va} {σ : Sg} {Q : Rs → Sg → Prop} {g j : Nat} {a1 a2 : Va} : Wx (d + 1) 32 92 ls (a2 :: a1 :: vr g j :: st) σ Q ↔ (isO g j 3 ∧ st.length ≤ 4 ∧ nlg [a2, a1] = true) ∧ Wm d 33 [vr g j, a1, a2] σ (Kc (d + 1) 32 95 ls st Q) := u_inv2 d32_92 rfl rfl rfl
theorem d32_95 : decode (mB 32) 95 = .ok (.iinc 2 1, 3) := by decide +kernel
theorem u32_95 {d : Nat} {ls : Lo} {st : List Va} {σ : Sg} {Q : Rs → Sg → Prop} : Wx d 32 95 ls st σ Q ↔ Li (lget ls 2) (fun z => Wx d 32 98 (lset ls 2 (vi (z + 1))) st σ Q) := u_iinc d32_95 (by decide)
theorem d32_98 : decode (mB 32) 98 = .ok (.goto (-53), 3) := by decide +kernel
theorem u32_98 {d : Nat} {ls : Lo} {st : List Va} {σ : Sg} {Q : Rs → Sg → Prop} : Wx d 32 98 ls st σ Q ↔ Wx d 32 45 ls st σ Q := u_goto d32_98 (by decide)
theorem d32_101 : decode (mB 32) 101 = .ok (.aload_n 0, 1) := by decide +kernel
theorem u32_101 {d : Nat} {ls : Lo} {st : List Va} {σ : Sg} {Q : Rs → Sg → Prop} : Wx d 32 101 ls st σ Q ↔ Lr (lget ls 0) (fun z => Wx d 32 102 ls (.inr (.inl z) :: st) σ Q) := u_aload_n d32_101
theorem d32_102 : decode (mB 32) 102 = .ok (.aload_n 0, 1) := by decide +kernel
theorem u32_102 {d : Nat} {ls : Lo} {st : List Va} {σ : Sg} {Q : Rs → Sg → Prop} : Wx d 32 102 ls st σ Q ↔ Lr (lget ls 0) (fun z => Wx d 32 103 ls (.inr (.inl z) :: st) σ Q) := u_aload_n d32_102
theorem d32_103 : decode (mB 32) 103 = .ok (.getfield 12, 3) := by decide +kernel
theorem u32_103 {d : Nat} {ls : Lo} {st : List Va} {σ : Sg} {Q : Rs → Sg → Prop} {g j : Nat} : Wx d 32 103 ls (vr g j :: st) σ Q ↔ isO g j 3 ∧ Wx d 32 106 ls (fvv σ g j 0 :: st) σ Q := u_get (w := (3, 0)) d32_103 rfl
theorem d32_106 : decode (mB 32) 106 = .ok (.invokevirtual 107, 3) := by decide +kernel
theorem u32_106 {d : Nat} {ls : Lo} {st : List Va} {σ : Sg} {Q : Rs → Sg → Prop} {g j : Nat} : Wx (d + 1) 32 106 ls (vr g j :: st) σ Q ↔ (isO g j 2 ∧ st.length ≤ 4 ∧ nlg [] = true) ∧ Wm d 26 [vr g j] σ (Kc (d + 1) 32 109 ls st Q) := u_inv0 d32_106 rfl rfl rfl
theorem d32_109 : decode (mB 32) 109 = .ok (.ifCond .eq 16, 3) := by decide +kernel
theorem u32_109 {d : Nat} {ls : Lo} {st : List Va} {σ : Sg} {Q : Rs → Sg → Prop} {a : Int} (h : -2147483648 ≤ a ∧ a ≤ 2147483647) : Wx d 32 109 ls (vi a :: st) σ Q ↔ if a = 0 then Wx d 32 125 ls st σ Q else Wx d 32 112 ls st σ Q := u_ifeq d32_109 (by decide) h
theorem d32_112 : decode (mB 32) 112 = .ok (.aload_n 0, 1) := by decide +kernel
theorem u32_112 {d : Nat} {ls : Lo} {st : List Va} {σ : Sg} {Q : Rs → Sg → Prop} : Wx d 32 112 ls st σ Q ↔ Lr (lget ls 0) (fun z => Wx d 32 113 ls (.inr (.inl z) :: st) σ Q) := u_aload_n d32_112
theorem d32_113 : decode (mB 32) 113 = .ok (.getfield 18, 3) := by decide +kernel
theorem u32_113 {d : Nat} {ls : Lo} {st : List Va} {σ : Sg} {Q : Rs → Sg → Prop} {g j : Nat} : Wx d 32 113 ls (vr g j :: st) σ Q ↔ isO g j 3 ∧ Wx d 32 116 ls (fvv σ g j 1 :: st) σ Q := u_get (w := (3, 1)) d32_113 rfl
theorem d32_116 : decode (mB 32) 116 = .ok (.iconst 5, 1) := by decide +kernel
theorem u32_116 {d : Nat} {ls : Lo} {st : List Va} {σ : Sg} {Q : Rs → Sg → Prop} : Wx d 32 116 ls st σ Q ↔ Wx d 32 117 ls (vi 5 :: st) σ Q := u_iconst d32_116
theorem d32_117 : decode (mB 32) 117 = .ok (.invokevirtual 110, 3) := by decide +kernel
theorem u32_117 {d : Nat} {ls : Lo} {st : List Va} {σ : Sg} {Q : Rs → Sg → Prop} {g j : Nat} {a1 : Va} : Wx (d + 1) 32 117 ls (a1 :: vr g j :: st) σ Q ↔ (isO g j 2 ∧ st.length ≤ 4 ∧ nlg [a1] = true) ∧ Wm d 23 [vr g j, a1] σ (Kc (d + 1) 32 120 ls st Q) := u_inv1 d32_117 rfl rfl rfl
theorem d32_120 : decode (mB 32) 120 = .ok (.iconst 1, 1) := by decide +kernel
theorem u32_120 {d : Nat} {ls : Lo} {st : List Va} {σ : Sg} {Q : Rs → Sg → Prop} : Wx d 32 120 ls st σ Q ↔ Wx d 32 121 ls (vi 1 :: st) σ Q := u_iconst d32_120
theorem d32_121 : decode (mB 32) 121 = .ok (.iadd, 1) := by decide +kernel
theorem u32_121 {d : Nat} {ls : Lo} {st : List Va} {σ : Sg} {Q : Rs → Sg → Prop} {a b : Int} : Wx d 32 121 ls (vi b :: vi a :: st) σ Q ↔ Wx d 32 122 ls (vi (a + b) :: st) σ Q := u_iadd d32_121
theorem d32_122 : decode (mB 32) 122 = .ok (.goto 4, 3) := by decide +kernel
theorem u32_122 {d : Nat} {ls : Lo} {st : List Va} {σ : Sg} {Q : Rs → Sg → Prop} : Wx d 32 122 ls st σ Q ↔ Wx d 32 126 ls st σ Q := u_goto d32_122 (by decide)
theorem d32_125 : decode (mB 32) 125 = .ok (.iconst (-1), 1) := by decide +kernel
theorem u32_125 {d : Nat} {ls : Lo} {st : List Va} {σ : Sg} {Q : Rs → Sg → Prop} : Wx d 32 125 ls st σ Q ↔ Wx d 32 126 ls (vi (-1) :: st) σ Q := u_iconst d32_125
theorem d32_126 : decode (mB 32) 126 = .ok (.putfield 41, 3) := by decide +kernel
theorem u32_126 {d : Nat} {ls : Lo} {st : List Va} {σ : Sg} {Q : Rs → Sg → Prop} {z : Int} {g j : Nat} : Wx d 32 126 ls (vi z :: vr g j :: st) σ Q ↔ (isO g j 3 ∧ rf g j 11 = none) ∧ Wx d 32 129 ls st (up σ g j 11 z) Q := u_put (w := (3, 11)) d32_126 rfl rfl rfl
theorem d32_129 : decode (mB 32) 129 = .ok (.return_, 1) := by decide +kernel
theorem u32_129 {d : Nat} {ls : Lo} {σ : Sg} {Q : Rs → Sg → Prop} : Wx d 32 129 ls [] σ Q ↔ Q (.inl none) σ := u_vret d32_129 rfl
/-! 33: FiguredBass$Chord.addTone(II)V -/
theorem d33_0 : decode (mB 33) 0 = .ok (.getstatic 114, 3) := by decide +kernel
theorem u33_0 {d : Nat} {ls : Lo} {st : List Va} {σ : Sg} {Q : Rs → Sg → Prop} : Wx d 33 0 ls st σ Q ↔ Wx d 33 3 ls (vr 13 0 :: st) σ Q := u_gets d33_0 rfl
theorem d33_3 : decode (mB 33) 3 = .ok (.iload_n 1, 1) := by decide +kernel
theorem u33_3 {d : Nat} {ls : Lo} {st : List Va} {σ : Sg} {Q : Rs → Sg → Prop} : Wx d 33 3 ls st σ Q ↔ Li (lget ls 1) (fun z => Wx d 33 4 ls (vi z :: st) σ Q) := u_iload_n d33_3
theorem d33_4 : decode (mB 33) 4 = .ok (.iaload, 1) := by decide +kernel
theorem u33_4 {d : Nat} {ls : Lo} {st : List Va} {σ : Sg} {Q : Rs → Sg → Prop} {z : Int} {g j : Nat} : Wx d 33 4 ls (vi z :: vr g j :: st) σ Q ↔ On (ial σ g j z) (fun x => Wx d 33 5 ls (vi x :: st) σ Q) := u_iald d33_4
theorem d33_5 : decode (mB 33) 5 = .ok (.iload_n 2, 1) := by decide +kernel
theorem u33_5 {d : Nat} {ls : Lo} {st : List Va} {σ : Sg} {Q : Rs → Sg → Prop} : Wx d 33 5 ls st σ Q ↔ Li (lget ls 2) (fun z => Wx d 33 6 ls (vi z :: st) σ Q) := u_iload_n d33_5
theorem d33_6 : decode (mB 33) 6 = .ok (.iadd, 1) := by decide +kernel
theorem u33_6 {d : Nat} {ls : Lo} {st : List Va} {σ : Sg} {Q : Rs → Sg → Prop} {a b : Int} : Wx d 33 6 ls (vi b :: vi a :: st) σ Q ↔ Wx d 33 7 ls (vi (a + b) :: st) σ Q := u_iadd d33_6
theorem d33_7 : decode (mB 33) 7 = .ok (.bipush 12, 2) := by decide +kernel
theorem u33_7 {d : Nat} {ls : Lo} {st : List Va} {σ : Sg} {Q : Rs → Sg → Prop} : Wx d 33 7 ls st σ Q ↔ Wx d 33 9 ls (vi 12 :: st) σ Q := u_bipush d33_7 (by decide)
theorem d33_9 : decode (mB 33) 9 = .ok (.invokestatic 117, 3) := by decide +kernel
theorem u33_9 {d : Nat} {ls : Lo} {st : List Va} {σ : Sg} {Q : Rs → Sg → Prop} {a1 a2 : Va} : Wx (d + 1) 33 9 ls (a2 :: a1 :: st) σ Q ↔ (st.length ≤ 4 ∧ nlg [a2, a1] = true) ∧ Wm d 128 [a1, a2] σ (Kc (d + 1) 33 12 ls st Q) := u_sta2 d33_9 rfl rfl rfl (by decide) (by decide) (by decide)
theorem d33_12 : decode (mB 33) 12 = .ok (.istore_n 3, 1) := by decide +kernel
theorem u33_12 {d : Nat} {ls : Lo} {st : List Va} {σ : Sg} {Q : Rs → Sg → Prop} {z : Int} : Wx d 33 12 ls (vi z :: st) σ Q ↔ Wx d 33 13 (lset ls 3 (vi z)) st σ Q := u_istore_n d33_12 (by decide)
theorem d33_13 : decode (mB 33) 13 = .ok (.aload_n 0, 1) := by decide +kernel
theorem u33_13 {d : Nat} {ls : Lo} {st : List Va} {σ : Sg} {Q : Rs → Sg → Prop} : Wx d 33 13 ls st σ Q ↔ Lr (lget ls 0) (fun z => Wx d 33 14 ls (.inr (.inl z) :: st) σ Q) := u_aload_n d33_13
theorem d33_14 : decode (mB 33) 14 = .ok (.getfield 28, 3) := by decide +kernel
theorem u33_14 {d : Nat} {ls : Lo} {st : List Va} {σ : Sg} {Q : Rs → Sg → Prop} {g j : Nat} : Wx d 33 14 ls (vr g j :: st) σ Q ↔ isO g j 3 ∧ Wx d 33 17 ls (fvv σ g j 4 :: st) σ Q := u_get (w := (3, 4)) d33_14 rfl
theorem d33_17 : decode (mB 33) 17 = .ok (.iload_n 3, 1) := by decide +kernel
theorem u33_17 {d : Nat} {ls : Lo} {st : List Va} {σ : Sg} {Q : Rs → Sg → Prop} : Wx d 33 17 ls st σ Q ↔ Li (lget ls 3) (fun z => Wx d 33 18 ls (vi z :: st) σ Q) := u_iload_n d33_17
theorem d33_18 : decode (mB 33) 18 = .ok (.iaload, 1) := by decide +kernel
theorem u33_18 {d : Nat} {ls : Lo} {st : List Va} {σ : Sg} {Q : Rs → Sg → Prop} {z : Int} {g j : Nat} : Wx d 33 18 ls (vi z :: vr g j :: st) σ Q ↔ On (ial σ g j z) (fun x => Wx d 33 19 ls (vi x :: st) σ Q) := u_iald d33_18
theorem d33_19 : decode (mB 33) 19 = .ok (.iconst (-1), 1) := by decide +kernel
theorem u33_19 {d : Nat} {ls : Lo} {st : List Va} {σ : Sg} {Q : Rs → Sg → Prop} : Wx d 33 19 ls st σ Q ↔ Wx d 33 20 ls (vi (-1) :: st) σ Q := u_iconst d33_19
theorem d33_20 : decode (mB 33) 20 = .ok (.if_icmp .eq 8, 3) := by decide +kernel
theorem u33_20 {d : Nat} {ls : Lo} {st : List Va} {σ : Sg} {Q : Rs → Sg → Prop} {a b : Int} (h : -2147483648 ≤ a ∧ a ≤ 2147483647) (h2 : -2147483648 ≤ b ∧ b ≤ 2147483647) : Wx d 33 20 ls (vi b :: vi a :: st) σ Q ↔ if a = b then Wx d 33 28 ls st σ Q else Wx d 33 23 ls st σ Q := u_iceq d33_20 (by decide) h h2
theorem d33_23 : decode (mB 33) 23 = .ok (.aload_n 0, 1) := by decide +kernel
theorem u33_23 {d : Nat} {ls : Lo} {st : List Va} {σ : Sg} {Q : Rs → Sg → Prop} : Wx d 33 23 ls st σ Q ↔ Lr (lget ls 0) (fun z => Wx d 33 24 ls (.inr (.inl z) :: st) σ Q) := u_aload_n d33_23
theorem d33_24 : decode (mB 33) 24 = .ok (.iconst 0, 1) := by decide +kernel
theorem u33_24 {d : Nat} {ls : Lo} {st : List Va} {σ : Sg} {Q : Rs → Sg → Prop} : Wx d 33 24 ls st σ Q ↔ Wx d 33 25 ls (vi 0 :: st) σ Q := u_iconst d33_24
theorem d33_25 : decode (mB 33) 25 = .ok (.putfield 84, 3) := by decide +kernel
theorem u33_25 {d : Nat} {ls : Lo} {st : List Va} {σ : Sg} {Q : Rs → Sg → Prop} {z : Int} {g j : Nat} : Wx d 33 25 ls (vi z :: vr g j :: st) σ Q ↔ (isO g j 3 ∧ rf g j 15 = none ∧ (z = 0 ∨ z = 1)) ∧ Wx d 33 28 ls st (up σ g j 15 z) Q := u_putz (w := (3, 15)) d33_25 rfl rfl rfl
theorem d33_28 : decode (mB 33) 28 = .ok (.aload_n 0, 1) := by decide +kernel
theorem u33_28 {d : Nat} {ls : Lo} {st : List Va} {σ : Sg} {Q : Rs → Sg → Prop} : Wx d 33 28 ls st σ Q ↔ Lr (lget ls 0) (fun z => Wx d 33 29 ls (.inr (.inl z) :: st) σ Q) := u_aload_n d33_28
theorem d33_29 : decode (mB 33) 29 = .ok (.getfield 28, 3) := by decide +kernel
theorem u33_29 {d : Nat} {ls : Lo} {st : List Va} {σ : Sg} {Q : Rs → Sg → Prop} {g j : Nat} : Wx d 33 29 ls (vr g j :: st) σ Q ↔ isO g j 3 ∧ Wx d 33 32 ls (fvv σ g j 4 :: st) σ Q := u_get (w := (3, 4)) d33_29 rfl
theorem d33_32 : decode (mB 33) 32 = .ok (.iload_n 3, 1) := by decide +kernel
theorem u33_32 {d : Nat} {ls : Lo} {st : List Va} {σ : Sg} {Q : Rs → Sg → Prop} : Wx d 33 32 ls st σ Q ↔ Li (lget ls 3) (fun z => Wx d 33 33 ls (vi z :: st) σ Q) := u_iload_n d33_32
theorem d33_33 : decode (mB 33) 33 = .ok (.iload_n 1, 1) := by decide +kernel
theorem u33_33 {d : Nat} {ls : Lo} {st : List Va} {σ : Sg} {Q : Rs → Sg → Prop} : Wx d 33 33 ls st σ Q ↔ Li (lget ls 1) (fun z => Wx d 33 34 ls (vi z :: st) σ Q) := u_iload_n d33_33
theorem d33_34 : decode (mB 33) 34 = .ok (.iastore, 1) := by decide +kernel
theorem u33_34 {d : Nat} {ls : Lo} {st : List Va} {σ : Sg} {Q : Rs → Sg → Prop} {x z : Int} {g j : Nat} : Wx d 33 34 ls (vi x :: vi z :: vr g j :: st) σ Q ↔ isA g j 0 z ∧ Wx d 33 35 ls st (up σ g j z.toNat x) Q := u_iast d33_34
theorem d33_35 : decode (mB 33) 35 = .ok (.aload_n 0, 1) := by decide +kernel
theorem u33_35 {d : Nat} {ls : Lo} {st : List Va} {σ : Sg} {Q : Rs → Sg → Prop} : Wx d 33 35 ls st σ Q ↔ Lr (lget ls 0) (fun z => Wx d 33 36 ls (.inr (.inl z) :: st) σ Q) := u_aload_n d33_35
theorem d33_36 : decode (mB 33) 36 = .ok (.getfield 87, 3) := by decide +kernel
theorem u33_36 {d : Nat} {ls : Lo} {st : List Va} {σ : Sg} {Q : Rs → Sg → Prop} {g j : Nat} : Wx d 33 36 ls (vr g j :: st) σ Q ↔ isO g j 3 ∧ Wx d 33 39 ls (fvv σ g j 10 :: st) σ Q := u_get (w := (3, 10)) d33_36 rfl
theorem d33_39 : decode (mB 33) 39 = .ok (.iconst 4, 1) := by decide +kernel
theorem u33_39 {d : Nat} {ls : Lo} {st : List Va} {σ : Sg} {Q : Rs → Sg → Prop} : Wx d 33 39 ls st σ Q ↔ Wx d 33 40 ls (vi 4 :: st) σ Q := u_iconst d33_39
theorem d33_40 : decode (mB 33) 40 = .ok (.if_icmp .ge 33, 3) := by decide +kernel
theorem u33_40 {d : Nat} {ls : Lo} {st : List Va} {σ : Sg} {Q : Rs → Sg → Prop} {a b : Int} (h : -2147483648 ≤ a ∧ a ≤ 2147483647) (h2 : -2147483648 ≤ b ∧ b ≤ 2147483647) : Wx d 33 40 ls (vi b :: vi a :: st) σ Q ↔ if b ≤ a then Wx d 33 73 ls st σ Q else Wx d 33 43 ls st σ Q := u_icge d33_40 (by decide) h h2
theorem d33_43 : decode (mB 33) 43 = .ok (.aload_n 0, 1) := by decide +kernel
theorem u33_43 {d : Nat} {ls : Lo} {st : List Va} {σ : Sg} {Q : Rs → Sg → Prop} : Wx d 33 43 ls st σ Q ↔ Lr (lget ls 0) (fun z => Wx d 33 44 ls (.inr (.inl z) :: st) σ Q) := u_aload_n d33_43
theorem d33_44 : decode (mB 33) 44 = .ok (.getfield 21, 3) := by decide +kernel
theorem u33_44 {d : Nat} {ls : Lo} {st : List Va} {σ : Sg} {Q : Rs → Sg → Prop} {g j : Nat} : Wx d 33 44 ls (vr g j :: st) σ Q ↔ isO g j 3 ∧ Wx d 33 47 ls (fvv σ g j 2 :: st) σ Q := u_get (w := (3, 2)) d33_44 rfl
theorem d33_47 : decode (mB 33) 47 = .ok (.aload_n 0, 1) := by decide +kernel
theorem u33_47 {d : Nat} {ls : Lo} {st : List Va} {σ : Sg} {Q : Rs → Sg → Prop} : Wx d 33 47 ls st σ Q ↔ Lr (lget ls 0) (fun z => Wx d 33 48 ls (.inr (.inl z) :: st) σ Q) := u_aload_n d33_47
theorem d33_48 : decode (mB 33) 48 = .ok (.getfield 87, 3) := by decide +kernel
theorem u33_48 {d : Nat} {ls : Lo} {st : List Va} {σ : Sg} {Q : Rs → Sg → Prop} {g j : Nat} : Wx d 33 48 ls (vr g j :: st) σ Q ↔ isO g j 3 ∧ Wx d 33 51 ls (fvv σ g j 10 :: st) σ Q := u_get (w := (3, 10)) d33_48 rfl
theorem d33_51 : decode (mB 33) 51 = .ok (.iload_n 1, 1) := by decide +kernel
theorem u33_51 {d : Nat} {ls : Lo} {st : List Va} {σ : Sg} {Q : Rs → Sg → Prop} : Wx d 33 51 ls st σ Q ↔ Li (lget ls 1) (fun z => Wx d 33 52 ls (vi z :: st) σ Q) := u_iload_n d33_51
theorem d33_52 : decode (mB 33) 52 = .ok (.iastore, 1) := by decide +kernel
theorem u33_52 {d : Nat} {ls : Lo} {st : List Va} {σ : Sg} {Q : Rs → Sg → Prop} {x z : Int} {g j : Nat} : Wx d 33 52 ls (vi x :: vi z :: vr g j :: st) σ Q ↔ isA g j 0 z ∧ Wx d 33 53 ls st (up σ g j z.toNat x) Q := u_iast d33_52
theorem d33_53 : decode (mB 33) 53 = .ok (.aload_n 0, 1) := by decide +kernel
theorem u33_53 {d : Nat} {ls : Lo} {st : List Va} {σ : Sg} {Q : Rs → Sg → Prop} : Wx d 33 53 ls st σ Q ↔ Lr (lget ls 0) (fun z => Wx d 33 54 ls (.inr (.inl z) :: st) σ Q) := u_aload_n d33_53
theorem d33_54 : decode (mB 33) 54 = .ok (.getfield 25, 3) := by decide +kernel
theorem u33_54 {d : Nat} {ls : Lo} {st : List Va} {σ : Sg} {Q : Rs → Sg → Prop} {g j : Nat} : Wx d 33 54 ls (vr g j :: st) σ Q ↔ isO g j 3 ∧ Wx d 33 57 ls (fvv σ g j 3 :: st) σ Q := u_get (w := (3, 3)) d33_54 rfl
theorem d33_57 : decode (mB 33) 57 = .ok (.aload_n 0, 1) := by decide +kernel
theorem u33_57 {d : Nat} {ls : Lo} {st : List Va} {σ : Sg} {Q : Rs → Sg → Prop} : Wx d 33 57 ls st σ Q ↔ Lr (lget ls 0) (fun z => Wx d 33 58 ls (.inr (.inl z) :: st) σ Q) := u_aload_n d33_57
theorem d33_58 : decode (mB 33) 58 = .ok (.getfield 87, 3) := by decide +kernel
theorem u33_58 {d : Nat} {ls : Lo} {st : List Va} {σ : Sg} {Q : Rs → Sg → Prop} {g j : Nat} : Wx d 33 58 ls (vr g j :: st) σ Q ↔ isO g j 3 ∧ Wx d 33 61 ls (fvv σ g j 10 :: st) σ Q := u_get (w := (3, 10)) d33_58 rfl
theorem d33_61 : decode (mB 33) 61 = .ok (.iload_n 3, 1) := by decide +kernel
theorem u33_61 {d : Nat} {ls : Lo} {st : List Va} {σ : Sg} {Q : Rs → Sg → Prop} : Wx d 33 61 ls st σ Q ↔ Li (lget ls 3) (fun z => Wx d 33 62 ls (vi z :: st) σ Q) := u_iload_n d33_61
theorem d33_62 : decode (mB 33) 62 = .ok (.iastore, 1) := by decide +kernel
theorem u33_62 {d : Nat} {ls : Lo} {st : List Va} {σ : Sg} {Q : Rs → Sg → Prop} {x z : Int} {g j : Nat} : Wx d 33 62 ls (vi x :: vi z :: vr g j :: st) σ Q ↔ isA g j 0 z ∧ Wx d 33 63 ls st (up σ g j z.toNat x) Q := u_iast d33_62
theorem d33_63 : decode (mB 33) 63 = .ok (.aload_n 0, 1) := by decide +kernel
theorem u33_63 {d : Nat} {ls : Lo} {st : List Va} {σ : Sg} {Q : Rs → Sg → Prop} : Wx d 33 63 ls st σ Q ↔ Lr (lget ls 0) (fun z => Wx d 33 64 ls (.inr (.inl z) :: st) σ Q) := u_aload_n d33_63
theorem d33_64 : decode (mB 33) 64 = .ok (.dup, 1) := by decide +kernel
theorem u33_64i {d : Nat} {ls : Lo} {st : List Va} {σ : Sg} {Q : Rs → Sg → Prop} {a : Int} : Wx d 33 64 ls (vi a :: st) σ Q ↔ Wx d 33 65 ls (vi a :: vi a :: st) σ Q := u_dupi d33_64
theorem u33_64r {d : Nat} {ls : Lo} {st : List Va} {σ : Sg} {Q : Rs → Sg → Prop} {g j : Nat} : Wx d 33 64 ls (vr g j :: st) σ Q ↔ Wx d 33 65 ls (vr g j :: vr g j :: st) σ Q := u_dupr d33_64
theorem d33_65 : decode (mB 33) 65 = .ok (.getfield 87, 3) := by decide +kernel
theorem u33_65 {d : Nat} {ls : Lo} {st : List Va} {σ : Sg} {Q : Rs → Sg → Prop} {g j : Nat} : Wx d 33 65 ls (vr g j :: st) σ Q ↔ isO g j 3 ∧ Wx d 33 68 ls (fvv σ g j 10 :: st) σ Q := u_get (w := (3, 10)) d33_65 rfl
theorem d33_68 : decode (mB 33) 68 = .ok (.iconst 1, 1) := by decide +kernel
theorem u33_68 {d : Nat} {ls : Lo} {st : List Va} {σ : Sg} {Q : Rs → Sg → Prop} : Wx d 33 68 ls st σ Q ↔ Wx d 33 69 ls (vi 1 :: st) σ Q := u_iconst d33_68
theorem d33_69 : decode (mB 33) 69 = .ok (.iadd, 1) := by decide +kernel
theorem u33_69 {d : Nat} {ls : Lo} {st : List Va} {σ : Sg} {Q : Rs → Sg → Prop} {a b : Int} : Wx d 33 69 ls (vi b :: vi a :: st) σ Q ↔ Wx d 33 70 ls (vi (a + b) :: st) σ Q := u_iadd d33_69
theorem d33_70 : decode (mB 33) 70 = .ok (.putfield 87, 3) := by decide +kernel
theorem u33_70 {d : Nat} {ls : Lo} {st : List Va} {σ : Sg} {Q : Rs → Sg → Prop} {z : Int} {g j : Nat} : Wx d 33 70 ls (vi z :: vr g j :: st) σ Q ↔ (isO g j 3 ∧ rf g j 10 = none) ∧ Wx d 33 73 ls st (up σ g j 10 z) Q := u_put (w := (3, 10)) d33_70 rfl rfl rfl
theorem d33_73 : decode (mB 33) 73 = .ok (.return_, 1) := by decide +kernel
theorem u33_73 {d : Nat} {ls : Lo} {σ : Sg} {Q : Rs → Sg → Prop} : Wx d 33 73 ls [] σ Q ↔ Q (.inl none) σ := u_vret d33_73 rfl
/-! 34: FiguredBass$Chord.readSeventhAndThird()V -/
theorem d34_0 : decode (mB 34) 0 = .ok (.aload_n 0, 1) := by decide +kernel
theorem u34_0 {d : Nat} {ls : Lo} {st : List Va} {σ : Sg} {Q : Rs → Sg → Prop} : Wx d 34 0 ls st σ Q ↔ Lr (lget ls 0) (fun z => Wx d 34 1 ls (.inr (.inl z) :: st) σ Q) := u_aload_n d34_0
theorem d34_1 : decode (mB 34) 1 = .ok (.invokevirtual 122, 3) := by decide +kernel
theorem u34_1 {d : Nat} {ls : Lo} {st : List Va} {σ : Sg} {Q : Rs → Sg → Prop} {g j : Nat} : Wx (d + 1) 34 1 ls (vr g j :: st) σ Q ↔ (isO g j 3 ∧ st.length ≤ 4 ∧ nlg [] = true) ∧ Wm d 35 [vr g j] σ (Kc (d + 1) 34 4 ls st Q) := u_inv0 d34_1 rfl rfl rfl
theorem d34_4 : decode (mB 34) 4 = .ok (.istore_n 1, 1) := by decide +kernel
theorem u34_4 {d : Nat} {ls : Lo} {st : List Va} {σ : Sg} {Q : Rs → Sg → Prop} {z : Int} : Wx d 34 4 ls (vi z :: st) σ Q ↔ Wx d 34 5 (lset ls 1 (vi z)) st σ Q := u_istore_n d34_4 (by decide)
theorem d34_5 : decode (mB 34) 5 = .ok (.aload_n 0, 1) := by decide +kernel
theorem u34_5 {d : Nat} {ls : Lo} {st : List Va} {σ : Sg} {Q : Rs → Sg → Prop} : Wx d 34 5 ls st σ Q ↔ Lr (lget ls 0) (fun z => Wx d 34 6 ls (.inr (.inl z) :: st) σ Q) := u_aload_n d34_5
theorem d34_6 : decode (mB 34) 6 = .ok (.getfield 18, 3) := by decide +kernel
theorem u34_6 {d : Nat} {ls : Lo} {st : List Va} {σ : Sg} {Q : Rs → Sg → Prop} {g j : Nat} : Wx d 34 6 ls (vr g j :: st) σ Q ↔ isO g j 3 ∧ Wx d 34 9 ls (fvv σ g j 1 :: st) σ Q := u_get (w := (3, 1)) d34_6 rfl
theorem d34_9 : decode (mB 34) 9 = .ok (.iconst 3, 1) := by decide +kernel
theorem u34_9 {d : Nat} {ls : Lo} {st : List Va} {σ : Sg} {Q : Rs → Sg → Prop} : Wx d 34 9 ls st σ Q ↔ Wx d 34 10 ls (vi 3 :: st) σ Q := u_iconst d34_9
theorem d34_10 : decode (mB 34) 10 = .ok (.invokevirtual 126, 3) := by decide +kernel
theorem u34_10 {d : Nat} {ls : Lo} {st : List Va} {σ : Sg} {Q : Rs → Sg → Prop} {g j : Nat} {a1 : Va} : Wx (d + 1) 34 10 ls (a1 :: vr g j :: st) σ Q ↔ (isO g j 2 ∧ st.length ≤ 4 ∧ nlg [a1] = true) ∧ Wm d 24 [vr g j, a1] σ (Kc (d + 1) 34 13 ls st Q) := u_inv1 d34_10 rfl rfl rfl
theorem d34_13 : decode (mB 34) 13 = .ok (.ifCond .eq 16, 3) := by decide +kernel
theorem u34_13 {d : Nat} {ls : Lo} {st : List Va} {σ : Sg} {Q : Rs → Sg → Prop} {a : Int} (h : -2147483648 ≤ a ∧ a ≤ 2147483647) : Wx d 34 13 ls (vi a :: st) σ Q ↔ if a = 0 then Wx d 34 29 ls st σ Q else Wx d 34 16 ls st σ Q := u_ifeq d34_13 (by decide) h
theorem d34_16 : decode (mB 34) 16 = .ok (.aload_n 0, 1) := by decide +kernel
theorem u34_16 {d : Nat} {ls : Lo} {st : List Va} {σ : Sg} {Q : Rs → Sg → Prop} : Wx d 34 16 ls st σ Q ↔ Lr (lget ls 0) (fun z => Wx d 34 17 ls (.inr (.inl z) :: st) σ Q) := u_aload_n d34_16
theorem d34_17 : decode (mB 34) 17 = .ok (.getfield 18, 3) := by decide +kernel
theorem u34_17 {d : Nat} {ls : Lo} {st : List Va} {σ : Sg} {Q : Rs → Sg → Prop} {g j : Nat} : Wx d 34 17 ls (vr g j :: st) σ Q ↔ isO g j 3 ∧ Wx d 34 20 ls (fvv σ g j 1 :: st) σ Q := u_get (w := (3, 1)) d34_17 rfl
theorem d34_20 : decode (mB 34) 20 = .ok (.iconst 3, 1) := by decide +kernel
theorem u34_20 {d : Nat} {ls : Lo} {st : List Va} {σ : Sg} {Q : Rs → Sg → Prop} : Wx d 34 20 ls st σ Q ↔ Wx d 34 21 ls (vi 3 :: st) σ Q := u_iconst d34_20
theorem d34_21 : decode (mB 34) 21 = .ok (.invokevirtual 110, 3) := by decide +kernel
theorem u34_21 {d : Nat} {ls : Lo} {st : List Va} {σ : Sg} {Q : Rs → Sg → Prop} {g j : Nat} {a1 : Va} : Wx (d + 1) 34 21 ls (a1 :: vr g j :: st) σ Q ↔ (isO g j 2 ∧ st.length ≤ 4 ∧ nlg [a1] = true) ∧ Wm d 23 [vr g j, a1] σ (Kc (d + 1) 34 24 ls st Q) := u_inv1 d34_21 rfl rfl rfl
theorem d34_24 : decode (mB 34) 24 = .ok (.iconst 1, 1) := by decide +kernel
theorem u34_24 {d : Nat} {ls : Lo} {st : List Va} {σ : Sg} {Q : Rs → Sg → Prop} : Wx d 34 24 ls st σ Q ↔ Wx d 34 25 ls (vi 1 :: st) σ Q := u_iconst d34_24
theorem d34_25 : decode (mB 34) 25 = .ok (.iadd, 1) := by decide +kernel
theorem u34_25 {d : Nat} {ls : Lo} {st : List Va} {σ : Sg} {Q : Rs → Sg → Prop} {a b : Int} : Wx d 34 25 ls (vi b :: vi a :: st) σ Q ↔ Wx d 34 26 ls (vi (a + b) :: st) σ Q := u_iadd d34_25
theorem d34_26 : decode (mB 34) 26 = .ok (.goto 4, 3) := by decide +kernel
theorem u34_26 {d : Nat} {ls : Lo} {st : List Va} {σ : Sg} {Q : Rs → Sg → Prop} : Wx d 34 26 ls st σ Q ↔ Wx d 34 30 ls st σ Q := u_goto d34_26 (by decide)
theorem d34_29 : decode (mB 34) 29 = .ok (.iconst (-1), 1) := by decide +kernel
theorem u34_29 {d : Nat} {ls : Lo} {st : List Va} {σ : Sg} {Q : Rs → Sg → Prop} : Wx d 34 29 ls st σ Q ↔ Wx d 34 30 ls (vi (-1) :: st) σ Q := u_iconst d34_29
theorem d34_30 : decode (mB 34) 30 = .ok (.istore_n 2, 1) := by decide +kernel
theorem u34_30 {d : Nat} {ls : Lo} {st : List Va} {σ : Sg} {Q : Rs → Sg → Prop} {z : Int} : Wx d 34 30 ls (vi z :: st) σ Q ↔ Wx d 34 31 (lset ls 2 (vi z)) st σ Q := u_istore_n d34_30 (by decide)
theorem d34_31 : decode (mB 34) 31 = .ok (.aload_n 0, 1) := by decide +kernel
theorem u34_31 {d : Nat} {ls : Lo} {st : List Va} {σ : Sg} {Q : Rs → Sg → Prop} : Wx d 34 31 ls st σ Q ↔ Lr (lget ls 0) (fun z => Wx d 34 32 ls (.inr (.inl z) :: st) σ Q) := u_aload_n d34_31
theorem d34_32 : decode (mB 34) 32 = .ok (.iload_n 1, 1) := by decide +kernel
theorem u34_32 {d : Nat} {ls : Lo} {st : List Va} {σ : Sg} {Q : Rs → Sg → Prop} : Wx d 34 32 ls st σ Q ↔ Li (lget ls 1) (fun z => Wx d 34 33 ls (vi z :: st) σ Q) := u_iload_n d34_32
theorem d34_33 : decode (mB 34) 33 = .ok (.iconst (-1), 1) := by decide +kernel
theorem u34_33 {d : Nat} {ls : Lo} {st : List Va} {σ : Sg} {Q : Rs → Sg → Prop} : Wx d 34 33 ls st σ Q ↔ Wx d 34 34 ls (vi (-1) :: st) σ Q := u_iconst d34_33
theorem d34_34 : decode (mB 34) 34 = .ok (.if_icmp .ne 7, 3) := by decide +kernel
theorem u34_34 {d : Nat} {ls : Lo} {st : List Va} {σ : Sg} {Q : Rs → Sg → Prop} {a b : Int} (h : -2147483648 ≤ a ∧ a ≤ 2147483647) (h2 : -2147483648 ≤ b ∧ b ≤ 2147483647) : Wx d 34 34 ls (vi b :: vi a :: st) σ Q ↔ if ¬ a = b then Wx d 34 41 ls st σ Q else Wx d 34 37 ls st σ Q := u_icne d34_34 (by decide) h h2
theorem d34_37 : decode (mB 34) 37 = .ok (.iconst (-1), 1) := by decide +kernel
theorem u34_37 {d : Nat} {ls : Lo} {st : List Va} {σ : Sg} {Q : Rs → Sg → Prop} : Wx d 34 37 ls st σ Q ↔ Wx d 34 38 ls (vi (-1) :: st) σ Q := u_iconst d34_37
theorem d34_38 : decode (mB 34) 38 = .ok (.goto 9, 3) := by decide +kernel
theorem u34_38 {d : Nat} {ls : Lo} {st : List Va} {σ : Sg} {Q : Rs → Sg → Prop} : Wx d 34 38 ls st σ Q ↔ Wx d 34 47 ls st σ Q := u_goto d34_38 (by decide)
theorem d34_41 : decode (mB 34) 41 = .ok (.aload_n 0, 1) := by decide +kernel
theorem u34_41 {d : Nat} {ls : Lo} {st : List Va} {σ : Sg} {Q : Rs → Sg → Prop} : Wx d 34 41 ls st σ Q ↔ Lr (lget ls 0) (fun z => Wx d 34 42 ls (.inr (.inl z) :: st) σ Q) := u_aload_n d34_41
theorem d34_42 : decode (mB 34) 42 = .ok (.getfield 25, 3) := by decide +kernel
theorem u34_42 {d : Nat} {ls : Lo} {st : List Va} {σ : Sg} {Q : Rs → Sg → Prop} {g j : Nat} : Wx d 34 42 ls (vr g j :: st) σ Q ↔ isO g j 3 ∧ Wx d 34 45 ls (fvv σ g j 3 :: st) σ Q := u_get (w := (3, 3)) d34_42 rfl
theorem d34_45 : decode (mB 34) 45 = .ok (.iload_n 1, 1) := by decide +kernel
theorem u34_45 {d : Nat} {ls : Lo} {st : List Va} {σ : Sg} {Q : Rs → Sg → Prop} : Wx d 34 45 ls st σ Q ↔ Li (lget ls 1) (fun z => Wx d 34 46 ls (vi z :: st) σ Q) := u_iload_n d34_45
theorem d34_46 : decode (mB 34) 46 = .ok (.iaload, 1) := by decide +kernel
theorem u34_46 {d : Nat} {ls : Lo} {st : List Va} {σ : Sg} {Q : Rs → Sg → Prop} {z : Int} {g j : Nat} : Wx d 34 46 ls (vi z :: vr g j :: st) σ Q ↔ On (ial σ g j z) (fun x => Wx d 34 47 ls (vi x :: st) σ Q) := u_iald d34_46
theorem d34_47 : decode (mB 34) 47 = .ok (.putfield 44, 3) := by decide +kernel
theorem u34_47 {d : Nat} {ls : Lo} {st : List Va} {σ : Sg} {Q : Rs → Sg → Prop} {z : Int} {g j : Nat} : Wx d 34 47 ls (vi z :: vr g j :: st) σ Q ↔ (isO g j 3 ∧ rf g j 13 = none) ∧ Wx d 34 50 ls st (up σ g j 13 z) Q := u_put (w := (3, 13)) d34_47 rfl rfl rfl
theorem d34_50 : decode (mB 34) 50 = .ok (.aload_n 0, 1) := by decide +kernel
theorem u34_50 {d : Nat} {ls : Lo} {st : List Va} {σ : Sg} {Q : Rs → Sg → Prop} : Wx d 34 50 ls st σ Q ↔ Lr (lget ls 0) (fun z => Wx d 34 51 ls (.inr (.inl z) :: st) σ Q) := u_aload_n d34_50
theorem d34_51 : decode (mB 34) 51 = .ok (.iload_n 2, 1) := by decide +kernel
theorem u34_51 {d : Nat} {ls : Lo} {st : List Va} {σ : Sg} {Q : Rs → Sg → Prop} : Wx d 34 51 ls st σ Q ↔ Li (lget ls 2) (fun z => Wx d 34 52 ls (vi z :: st) σ Q) := u_iload_n d34_51
theorem d34_52 : decode (mB 34) 52 = .ok (.iconst (-1), 1) := by decide +kernel
theorem u34_52 {d : Nat} {ls : Lo} {st : List Va} {σ : Sg} {Q : Rs → Sg → Prop} : Wx d 34 52 ls st σ Q ↔ Wx d 34 53 ls (vi (-1) :: st) σ Q := u_iconst d34_52
theorem d34_53 : decode (mB 34) 53 = .ok (.if_icmp .eq 8, 3) := by decide +kernel
theorem u34_53 {d : Nat} {ls : Lo} {st : List Va} {σ : Sg} {Q : Rs → Sg → Prop} {a b : Int} (h : -2147483648 ≤ a ∧ a ≤ 2147483647) (h2 : -2147483648 ≤ b ∧ b ≤ 2147483647) : Wx d 34 53 ls (vi b :: vi a :: st) σ Q ↔ if a = b then Wx d 34 61 ls st σ Q else Wx d 34 56 ls st σ Q := u_iceq d34_53 (by decide) h h2
theorem d34_56 : decode (mB 34) 56 = .ok (.iload_n 2, 1) := by decide +kernel
theorem u34_56 {d : Nat} {ls : Lo} {st : List Va} {σ : Sg} {Q : Rs → Sg → Prop} : Wx d 34 56 ls st σ Q ↔ Li (lget ls 2) (fun z => Wx d 34 57 ls (vi z :: st) σ Q) := u_iload_n d34_56
theorem d34_57 : decode (mB 34) 57 = .ok (.iload_n 1, 1) := by decide +kernel
theorem u34_57 {d : Nat} {ls : Lo} {st : List Va} {σ : Sg} {Q : Rs → Sg → Prop} : Wx d 34 57 ls st σ Q ↔ Li (lget ls 1) (fun z => Wx d 34 58 ls (vi z :: st) σ Q) := u_iload_n d34_57
theorem d34_58 : decode (mB 34) 58 = .ok (.if_icmp .ne 7, 3) := by decide +kernel
theorem u34_58 {d : Nat} {ls : Lo} {st : List Va} {σ : Sg} {Q : Rs → Sg → Prop} {a b : Int} (h : -2147483648 ≤ a ∧ a ≤ 2147483647) (h2 : -2147483648 ≤ b ∧ b ≤ 2147483647) : Wx d 34 58 ls (vi b :: vi a :: st) σ Q ↔ if ¬ a = b then Wx d 34 65 ls st σ Q else Wx d 34 61 ls st σ Q := u_icne d34_58 (by decide) h h2
theorem d34_61 : decode (mB 34) 61 = .ok (.iconst (-1), 1) := by decide +kernel
theorem u34_61 {d : Nat} {ls : Lo} {st : List Va} {σ : Sg} {Q : Rs → Sg → Prop} : Wx d 34 61 ls st σ Q ↔ Wx d 34 62 ls (vi (-1) :: st) σ Q := u_iconst d34_61
theorem d34_62 : decode (mB 34) 62 = .ok (.goto 9, 3) := by decide +kernel
theorem u34_62 {d : Nat} {ls : Lo} {st : List Va} {σ : Sg} {Q : Rs → Sg → Prop} : Wx d 34 62 ls st σ Q ↔ Wx d 34 71 ls st σ Q := u_goto d34_62 (by decide)
theorem d34_65 : decode (mB 34) 65 = .ok (.aload_n 0, 1) := by decide +kernel
theorem u34_65 {d : Nat} {ls : Lo} {st : List Va} {σ : Sg} {Q : Rs → Sg → Prop} : Wx d 34 65 ls st σ Q ↔ Lr (lget ls 0) (fun z => Wx d 34 66 ls (.inr (.inl z) :: st) σ Q) := u_aload_n d34_65
theorem d34_66 : decode (mB 34) 66 = .ok (.getfield 25, 3) := by decide +kernel
theorem u34_66 {d : Nat} {ls : Lo} {st : List Va} {σ : Sg} {Q : Rs → Sg → Prop} {g j : Nat} : Wx d 34 66 ls (vr g j :: st) σ Q ↔ isO g j 3 ∧ Wx d 34 69 ls (fvv σ g j 3 :: st) σ Q := u_get (w := (3, 3)) d34_66 rfl
theorem d34_69 : decode (mB 34) 69 = .ok (.iload_n 2, 1) := by decide +kernel
theorem u34_69 {d : Nat} {ls : Lo} {st : List Va} {σ : Sg} {Q : Rs → Sg → Prop} : Wx d 34 69 ls st σ Q ↔ Li (lget ls 2) (fun z => Wx d 34 70 ls (vi z :: st) σ Q) := u_iload_n d34_69
theorem d34_70 : decode (mB 34) 70 = .ok (.iaload, 1) := by decide +kernel
theorem u34_70 {d : Nat} {ls : Lo} {st : List Va} {σ : Sg} {Q : Rs → Sg → Prop} {z : Int} {g j : Nat} : Wx d 34 70 ls (vi z :: vr g j :: st) σ Q ↔ On (ial σ g j z) (fun x => Wx d 34 71 ls (vi x :: st) σ Q) := u_iald d34_70
theorem d34_71 : decode (mB 34) 71 = .ok (.putfield 47, 3) := by decide +kernel
theorem u34_71 {d : Nat} {ls : Lo} {st : List Va} {σ : Sg} {Q : Rs → Sg → Prop} {z : Int} {g j : Nat} : Wx d 34 71 ls (vi z :: vr g j :: st) σ Q ↔ (isO g j 3 ∧ rf g j 14 = none) ∧ Wx d 34 74 ls st (up σ g j 14 z) Q := u_put (w := (3, 14)) d34_71 rfl rfl rfl
theorem d34_74 : decode (mB 34) 74 = .ok (.return_, 1) := by decide +kernel
theorem u34_74 {d : Nat} {ls : Lo} {σ : Sg} {Q : Rs → Sg → Prop} : Wx d 34 74 ls [] σ Q ↔ Q (.inl none) σ := u_vret d34_74 rfl
/-! 35: FiguredBass$Chord.seventhTone()I -/
theorem d35_0 : decode (mB 35) 0 = .ok (.aload_n 0, 1) := by decide +kernel
theorem u35_0 {d : Nat} {ls : Lo} {st : List Va} {σ : Sg} {Q : Rs → Sg → Prop} : Wx d 35 0 ls st σ Q ↔ Lr (lget ls 0) (fun z => Wx d 35 1 ls (.inr (.inl z) :: st) σ Q) := u_aload_n d35_0
theorem d35_1 : decode (mB 35) 1 = .ok (.getfield 18, 3) := by decide +kernel
theorem u35_1 {d : Nat} {ls : Lo} {st : List Va} {σ : Sg} {Q : Rs → Sg → Prop} {g j : Nat} : Wx d 35 1 ls (vr g j :: st) σ Q ↔ isO g j 3 ∧ Wx d 35 4 ls (fvv σ g j 1 :: st) σ Q := u_get (w := (3, 1)) d35_1 rfl
theorem d35_4 : decode (mB 35) 4 = .ok (.bipush 7, 2) := by decide +kernel
theorem u35_4 {d : Nat} {ls : Lo} {st : List Va} {σ : Sg} {Q : Rs → Sg → Prop} : Wx d 35 4 ls st σ Q ↔ Wx d 35 6 ls (vi 7 :: st) σ Q := u_bipush d35_4 (by decide)
theorem d35_6 : decode (mB 35) 6 = .ok (.invokevirtual 126, 3) := by decide +kernel
theorem u35_6 {d : Nat} {ls : Lo} {st : List Va} {σ : Sg} {Q : Rs → Sg → Prop} {g j : Nat} {a1 : Va} : Wx (d + 1) 35 6 ls (a1 :: vr g j :: st) σ Q ↔ (isO g j 2 ∧ st.length ≤ 4 ∧ nlg [a1] = true) ∧ Wm d 24 [vr g j, a1] σ (Kc (d + 1) 35 9 ls st Q) := u_inv1 d35_6 rfl rfl rfl
theorem d35_9 : decode (mB 35) 9 = .ok (.ifCond .eq 15, 3) := by decide +kernel
theorem u35_9 {d : Nat} {ls : Lo} {st : List Va} {σ : Sg} {Q : Rs → Sg → Prop} {a : Int} (h : -2147483648 ≤ a ∧ a ≤ 2147483647) : Wx d 35 9 ls (vi a :: st) σ Q ↔ if a = 0 then Wx d 35 24 ls st σ Q else Wx d 35 12 ls st σ Q := u_ifeq d35_9 (by decide) h
theorem d35_12 : decode (mB 35) 12 = .ok (.aload_n 0, 1) := by decide +kernel
theorem u35_12 {d : Nat} {ls : Lo} {st : List Va} {σ : Sg} {Q : Rs → Sg → Prop} : Wx d 35 12 ls st σ Q ↔ Lr (lget ls 0) (fun z => Wx d 35 13 ls (.inr (.inl z) :: st) σ Q) := u_aload_n d35_12
theorem d35_13 : decode (mB 35) 13 = .ok (.getfield 18, 3) := by decide +kernel
theorem u35_13 {d : Nat} {ls : Lo} {st : List Va} {σ : Sg} {Q : Rs → Sg → Prop} {g j : Nat} : Wx d 35 13 ls (vr g j :: st) σ Q ↔ isO g j 3 ∧ Wx d 35 16 ls (fvv σ g j 1 :: st) σ Q := u_get (w := (3, 1)) d35_13 rfl
theorem d35_16 : decode (mB 35) 16 = .ok (.bipush 7, 2) := by decide +kernel
theorem u35_16 {d : Nat} {ls : Lo} {st : List Va} {σ : Sg} {Q : Rs → Sg → Prop} : Wx d 35 16 ls st σ Q ↔ Wx d 35 18 ls (vi 7 :: st) σ Q := u_bipush d35_16 (by decide)
theorem d35_18 : decode (mB 35) 18 = .ok (.invokevirtual 110, 3) := by decide +kernel
theorem u35_18 {d : Nat} {ls : Lo} {st : List Va} {σ : Sg} {Q : Rs → Sg → Prop} {g j : Nat} {a1 : Va} : Wx (d + 1) 35 18 ls (a1 :: vr g j :: st) σ Q ↔ (isO g j 2 ∧ st.length ≤ 4 ∧ nlg [a1] = true) ∧ Wm d 23 [vr g j, a1] σ (Kc (d + 1) 35 21 ls st Q) := u_inv1 d35_18 rfl rfl rfl
theorem d35_21 : decode (mB 35) 21 = .ok (.iconst 1, 1) := by decide +kernel
theorem u35_21 {d : Nat} {ls : Lo} {st : List Va} {σ : Sg} {Q : Rs → Sg → Prop} : Wx d 35 21 ls st σ Q ↔ Wx d 35 22 ls (vi 1 :: st) σ Q := u_iconst d35_21
theorem d35_22 : decode (mB 35) 22 = .ok (.iadd, 1) := by decide +kernel
theorem u35_22 {d : Nat} {ls : Lo} {st : List Va} {σ : Sg} {Q : Rs → Sg → Prop} {a b : Int} : Wx d 35 22 ls (vi b :: vi a :: st) σ Q ↔ Wx d 35 23 ls (vi (a + b) :: st) σ Q := u_iadd d35_22
theorem d35_23 : decode (mB 35) 23 = .ok (.ireturn, 1) := by decide +kernel
theorem u35_23 {d : Nat} {ls : Lo} {σ : Sg} {Q : Rs → Sg → Prop} {z : Int} : Wx d 35 23 ls [vi z] σ Q ↔ Q (.inl (some (vi z))) σ := u_iret d35_23 rfl
theorem d35_24 : decode (mB 35) 24 = .ok (.aload_n 0, 1) := by decide +kernel
theorem u35_24 {d : Nat} {ls : Lo} {st : List Va} {σ : Sg} {Q : Rs → Sg → Prop} : Wx d 35 24 ls st σ Q ↔ Lr (lget ls 0) (fun z => Wx d 35 25 ls (.inr (.inl z) :: st) σ Q) := u_aload_n d35_24
theorem d35_25 : decode (mB 35) 25 = .ok (.getfield 18, 3) := by decide +kernel
theorem u35_25 {d : Nat} {ls : Lo} {st : List Va} {σ : Sg} {Q : Rs → Sg → Prop} {g j : Nat} : Wx d 35 25 ls (vr g j :: st) σ Q ↔ isO g j 3 ∧ Wx d 35 28 ls (fvv σ g j 1 :: st) σ Q := u_get (w := (3, 1)) d35_25 rfl
theorem d35_28 : decode (mB 35) 28 = .ok (.bipush 6, 2) := by decide +kernel
theorem u35_28 {d : Nat} {ls : Lo} {st : List Va} {σ : Sg} {Q : Rs → Sg → Prop} : Wx d 35 28 ls st σ Q ↔ Wx d 35 30 ls (vi 6 :: st) σ Q := u_bipush d35_28 (by decide)
theorem d35_30 : decode (mB 35) 30 = .ok (.invokevirtual 126, 3) := by decide +kernel
theorem u35_30 {d : Nat} {ls : Lo} {st : List Va} {σ : Sg} {Q : Rs → Sg → Prop} {g j : Nat} {a1 : Va} : Wx (d + 1) 35 30 ls (a1 :: vr g j :: st) σ Q ↔ (isO g j 2 ∧ st.length ≤ 4 ∧ nlg [a1] = true) ∧ Wm d 24 [vr g j, a1] σ (Kc (d + 1) 35 33 ls st Q) := u_inv1 d35_30 rfl rfl rfl
theorem d35_33 : decode (mB 35) 33 = .ok (.ifCond .eq 25, 3) := by decide +kernel
theorem u35_33 {d : Nat} {ls : Lo} {st : List Va} {σ : Sg} {Q : Rs → Sg → Prop} {a : Int} (h : -2147483648 ≤ a ∧ a ≤ 2147483647) : Wx d 35 33 ls (vi a :: st) σ Q ↔ if a = 0 then Wx d 35 58 ls st σ Q else Wx d 35 36 ls st σ Q := u_ifeq d35_33 (by decide) h
theorem d35_36 : decode (mB 35) 36 = .ok (.aload_n 0, 1) := by decide +kernel
theorem u35_36 {d : Nat} {ls : Lo} {st : List Va} {σ : Sg} {Q : Rs → Sg → Prop} : Wx d 35 36 ls st σ Q ↔ Lr (lget ls 0) (fun z => Wx d 35 37 ls (.inr (.inl z) :: st) σ Q) := u_aload_n d35_36
theorem d35_37 : decode (mB 35) 37 = .ok (.getfield 18, 3) := by decide +kernel
theorem u35_37 {d : Nat} {ls : Lo} {st : List Va} {σ : Sg} {Q : Rs → Sg → Prop} {g j : Nat} : Wx d 35 37 ls (vr g j :: st) σ Q ↔ isO g j 3 ∧ Wx d 35 40 ls (fvv σ g j 1 :: st) σ Q := u_get (w := (3, 1)) d35_37 rfl
theorem d35_40 : decode (mB 35) 40 = .ok (.iconst 5, 1) := by decide +kernel
theorem u35_40 {d : Nat} {ls : Lo} {st : List Va} {σ : Sg} {Q : Rs → Sg → Prop} : Wx d 35 40 ls st σ Q ↔ Wx d 35 41 ls (vi 5 :: st) σ Q := u_iconst d35_40
theorem d35_41 : decode (mB 35) 41 = .ok (.invokevirtual 126, 3) := by decide +kernel
theorem u35_41 {d : Nat} {ls : Lo} {st : List Va} {σ : Sg} {Q : Rs → Sg → Prop} {g j : Nat} {a1 : Va} : Wx (d + 1) 35 41 ls (a1 :: vr g j :: st) σ Q ↔ (isO g j 2 ∧ st.length ≤ 4 ∧ nlg [a1] = true) ∧ Wm d 24 [vr g j, a1] σ (Kc (d + 1) 35 44 ls st Q) := u_inv1 d35_41 rfl rfl rfl
theorem d35_44 : decode (mB 35) 44 = .ok (.ifCond .eq 14, 3) := by decide +kernel
theorem u35_44 {d : Nat} {ls : Lo} {st : List Va} {σ : Sg} {Q : Rs → Sg → Prop} {a : Int} (h : -2147483648 ≤ a ∧ a ≤ 2147483647) : Wx d 35 44 ls (vi a :: st) σ Q ↔ if a = 0 then Wx d 35 58 ls st σ Q else Wx d 35 47 ls st σ Q := u_ifeq d35_44 (by decide) h
theorem d35_47 : decode (mB 35) 47 = .ok (.aload_n 0, 1) := by decide +kernel
theorem u35_47 {d : Nat} {ls : Lo} {st : List Va} {σ : Sg} {Q : Rs → Sg → Prop} : Wx d 35 47 ls st σ Q ↔ Lr (lget ls 0) (fun z => Wx d 35 48 ls (.inr (.inl z) :: st) σ Q) := u_aload_n d35_47
theorem d35_48 : decode (mB 35) 48 = .ok (.getfield 18, 3) := by decide +kernel
theorem u35_48 {d : Nat} {ls : Lo} {st : List Va} {σ : Sg} {Q : Rs → Sg → Prop} {g j : Nat} : Wx d 35 48 ls (vr g j :: st) σ Q ↔ isO g j 3 ∧ Wx d 35 51 ls (fvv σ g j 1 :: st) σ Q := u_get (w := (3, 1)) d35_48 rfl
theorem d35_51 : decode (mB 35) 51 = .ok (.iconst 5, 1) := by decide +kernel
theorem u35_51 {d : Nat} {ls : Lo} {st : List Va} {σ : Sg} {Q : Rs → Sg → Prop} : Wx d 35 51 ls st σ Q ↔ Wx d 35 52 ls (vi 5 :: st) σ Q := u_iconst d35_51
theorem d35_52 : decode (mB 35) 52 = .ok (.invokevirtual 110, 3) := by decide +kernel
theorem u35_52 {d : Nat} {ls : Lo} {st : List Va} {σ : Sg} {Q : Rs → Sg → Prop} {g j : Nat} {a1 : Va} : Wx (d + 1) 35 52 ls (a1 :: vr g j :: st) σ Q ↔ (isO g j 2 ∧ st.length ≤ 4 ∧ nlg [a1] = true) ∧ Wm d 23 [vr g j, a1] σ (Kc (d + 1) 35 55 ls st Q) := u_inv1 d35_52 rfl rfl rfl
theorem d35_55 : decode (mB 35) 55 = .ok (.iconst 1, 1) := by decide +kernel
theorem u35_55 {d : Nat} {ls : Lo} {st : List Va} {σ : Sg} {Q : Rs → Sg → Prop} : Wx d 35 55 ls st σ Q ↔ Wx d 35 56 ls (vi 1 :: st) σ Q := u_iconst d35_55
theorem d35_56 : decode (mB 35) 56 = .ok (.iadd, 1) := by decide +kernel
theorem u35_56 {d : Nat} {ls : Lo} {st : List Va} {σ : Sg} {Q : Rs → Sg → Prop} {a b : Int} : Wx d 35 56 ls (vi b :: vi a :: st) σ Q ↔ Wx d 35 57 ls (vi (a + b) :: st) σ Q := u_iadd d35_56
theorem d35_57 : decode (mB 35) 57 = .ok (.ireturn, 1) := by decide +kernel
theorem u35_57 {d : Nat} {ls : Lo} {σ : Sg} {Q : Rs → Sg → Prop} {z : Int} : Wx d 35 57 ls [vi z] σ Q ↔ Q (.inl (some (vi z))) σ := u_iret d35_57 rfl
theorem d35_58 : decode (mB 35) 58 = .ok (.aload_n 0, 1) := by decide +kernel
theorem u35_58 {d : Nat} {ls : Lo} {st : List Va} {σ : Sg} {Q : Rs → Sg → Prop} : Wx d 35 58 ls st σ Q ↔ Lr (lget ls 0) (fun z => Wx d 35 59 ls (.inr (.inl z) :: st) σ Q) := u_aload_n d35_58
theorem d35_59 : decode (mB 35) 59 = .ok (.getfield 18, 3) := by decide +kernel
theorem u35_59 {d : Nat} {ls : Lo} {st : List Va} {σ : Sg} {Q : Rs → Sg → Prop} {g j : Nat} : Wx d 35 59 ls (vr g j :: st) σ Q ↔ isO g j 3 ∧ Wx d 35 62 ls (fvv σ g j 1 :: st) σ Q := u_get (w := (3, 1)) d35_59 rfl
theorem d35_62 : decode (mB 35) 62 = .ok (.iconst 4, 1) := by decide +kernel
theorem u35_62 {d : Nat} {ls : Lo} {st : List Va} {σ : Sg} {Q : Rs → Sg → Prop} : Wx d 35 62 ls st σ Q ↔ Wx d 35 63 ls (vi 4 :: st) σ Q := u_iconst d35_62
theorem d35_63 : decode (mB 35) 63 = .ok (.invokevirtual 126, 3) := by decide +kernel
theorem u35_63 {d : Nat} {ls : Lo} {st : List Va} {σ : Sg} {Q : Rs → Sg → Prop} {g j : Nat} {a1 : Va} : Wx (d + 1) 35 63 ls (a1 :: vr g j :: st) σ Q ↔ (isO g j 2 ∧ st.length ≤ 4 ∧ nlg [a1] = true) ∧ Wm d 24 [vr g j, a1] σ (Kc (d + 1) 35 66 ls st Q) := u_inv1 d35_63 rfl rfl rfl
theorem d35_66 : decode (mB 35) 66 = .ok (.ifCond .eq 25, 3) := by decide +kernel
theorem u35_66 {d : Nat} {ls : Lo} {st : List Va} {σ : Sg} {Q : Rs → Sg → Prop} {a : Int} (h : -2147483648 ≤ a ∧ a ≤ 2147483647) : Wx d 35 66 ls (vi a :: st) σ Q ↔ if a = 0 then Wx d 35 91 ls st σ Q else Wx d 35 69 ls st σ Q := u_ifeq d35_66 (by decide) h
theorem d35_69 : decode (mB 35) 69 = .ok (.aload_n 0, 1) := by decide +kernel
theorem u35_69 {d : Nat} {ls : Lo} {st : List Va} {σ : Sg} {Q : Rs → Sg → Prop} : Wx d 35 69 ls st σ Q ↔ Lr (lget ls 0) (fun z => Wx d 35 70 ls (.inr (.inl z) :: st) σ Q) := u_aload_n d35_69
theorem d35_70 : decode (mB 35) 70 = .ok (.getfield 18, 3) := by decide +kernel
theorem u35_70 {d : Nat} {ls : Lo} {st : List Va} {σ : Sg} {Q : Rs → Sg → Prop} {g j : Nat} : Wx d 35 70 ls (vr g j :: st) σ Q ↔ isO g j 3 ∧ Wx d 35 73 ls (fvv σ g j 1 :: st) σ Q := u_get (w := (3, 1)) d35_70 rfl
theorem d35_73 : decode (mB 35) 73 = .ok (.iconst 3, 1) := by decide +kernel
theorem u35_73 {d : Nat} {ls : Lo} {st : List Va} {σ : Sg} {Q : Rs → Sg → Prop} : Wx d 35 73 ls st σ Q ↔ Wx d 35 74 ls (vi 3 :: st) σ Q := u_iconst d35_73
theorem d35_74 : decode (mB 35) 74 = .ok (.invokevirtual 126, 3) := by decide +kernel
theorem u35_74 {d : Nat} {ls : Lo} {st : List Va} {σ : Sg} {Q : Rs → Sg → Prop} {g j : Nat} {a1 : Va} : Wx (d + 1) 35 74 ls (a1 :: vr g j :: st) σ Q ↔ (isO g j 2 ∧ st.length ≤ 4 ∧ nlg [a1] = true) ∧ Wm d 24 [vr g j, a1] σ (Kc (d + 1) 35 77 ls st Q) := u_inv1 d35_74 rfl rfl rfl
theorem d35_77 : decode (mB 35) 77 = .ok (.ifCond .eq 14, 3) := by decide +kernel
theorem u35_77 {d : Nat} {ls : Lo} {st : List Va} {σ : Sg} {Q : Rs → Sg → Prop} {a : Int} (h : -2147483648 ≤ a ∧ a ≤ 2147483647) : Wx d 35 77 ls (vi a :: st) σ Q ↔ if a = 0 then Wx d 35 91 ls st σ Q else Wx d 35 80 ls st σ Q := u_ifeq d35_77 (by decide) h
theorem d35_80 : decode (mB 35) 80 = .ok (.aload_n 0, 1) := by decide +kernel
theorem u35_80 {d : Nat} {ls : Lo} {st : List Va} {σ : Sg} {Q : Rs → Sg → Prop} : Wx d 35 80 ls st σ Q ↔ Lr (lget ls 0) (fun z => Wx d 35 81 ls (.inr (.inl z) :: st) σ Q) := u_aload_n d35_80
theorem d35_81 : decode (mB 35) 81 = .ok (.getfield 18, 3) := by decide +kernel
theorem u35_81 {d : Nat} {ls : Lo} {st : List Va} {σ : Sg} {Q : Rs → Sg → Prop} {g j : Nat} : Wx d 35 81 ls (vr g j :: st) σ Q ↔ isO g j 3 ∧ Wx d 35 84 ls (fvv σ g j 1 :: st) σ Q := u_get (w := (3, 1)) d35_81 rfl
theorem d35_84 : decode (mB 35) 84 = .ok (.iconst 3, 1) := by decide +kernel
theorem u35_84 {d : Nat} {ls : Lo} {st : List Va} {σ : Sg} {Q : Rs → Sg → Prop} : Wx d 35 84 ls st σ Q ↔ Wx d 35 85 ls (vi 3 :: st) σ Q := u_iconst d35_84
theorem d35_85 : decode (mB 35) 85 = .ok (.invokevirtual 110, 3) := by decide +kernel
theorem u35_85 {d : Nat} {ls : Lo} {st : List Va} {σ : Sg} {Q : Rs → Sg → Prop} {g j : Nat} {a1 : Va} : Wx (d + 1) 35 85 ls (a1 :: vr g j :: st) σ Q ↔ (isO g j 2 ∧ st.length ≤ 4 ∧ nlg [a1] = true) ∧ Wm d 23 [vr g j, a1] σ (Kc (d + 1) 35 88 ls st Q) := u_inv1 d35_85 rfl rfl rfl
theorem d35_88 : decode (mB 35) 88 = .ok (.iconst 1, 1) := by decide +kernel
theorem u35_88 {d : Nat} {ls : Lo} {st : List Va} {σ : Sg} {Q : Rs → Sg → Prop} : Wx d 35 88 ls st σ Q ↔ Wx d 35 89 ls (vi 1 :: st) σ Q := u_iconst d35_88
theorem d35_89 : decode (mB 35) 89 = .ok (.iadd, 1) := by decide +kernel
theorem u35_89 {d : Nat} {ls : Lo} {st : List Va} {σ : Sg} {Q : Rs → Sg → Prop} {a b : Int} : Wx d 35 89 ls (vi b :: vi a :: st) σ Q ↔ Wx d 35 90 ls (vi (a + b) :: st) σ Q := u_iadd d35_89
theorem d35_90 : decode (mB 35) 90 = .ok (.ireturn, 1) := by decide +kernel
theorem u35_90 {d : Nat} {ls : Lo} {σ : Sg} {Q : Rs → Sg → Prop} {z : Int} : Wx d 35 90 ls [vi z] σ Q ↔ Q (.inl (some (vi z))) σ := u_iret d35_90 rfl
theorem d35_91 : decode (mB 35) 91 = .ok (.aload_n 0, 1) := by decide +kernel
theorem u35_91 {d : Nat} {ls : Lo} {st : List Va} {σ : Sg} {Q : Rs → Sg → Prop} : Wx d 35 91 ls st σ Q ↔ Lr (lget ls 0) (fun z => Wx d 35 92 ls (.inr (.inl z) :: st) σ Q) := u_aload_n d35_91
theorem d35_92 : decode (mB 35) 92 = .ok (.getfield 18, 3) := by decide +kernel
theorem u35_92 {d : Nat} {ls : Lo} {st : List Va} {σ : Sg} {Q : Rs → Sg → Prop} {g j : Nat} : Wx d 35 92 ls (vr g j :: st) σ Q ↔ isO g j 3 ∧ Wx d 35 95 ls (fvv σ g j 1 :: st) σ Q := u_get (w := (3, 1)) d35_92 rfl
theorem d35_95 : decode (mB 35) 95 = .ok (.iconst 4, 1) := by decide +kernel
theorem u35_95 {d : Nat} {ls : Lo} {st : List Va} {σ : Sg} {Q : Rs → Sg → Prop} : Wx d 35 95 ls st σ Q ↔ Wx d 35 96 ls (vi 4 :: st) σ Q := u_iconst d35_95
theorem d35_96 : decode (mB 35) 96 = .ok (.invokevirtual 126, 3) := by decide +kernel
theorem u35_96 {d : Nat} {ls : Lo} {st : List Va} {σ : Sg} {Q : Rs → Sg → Prop} {g j : Nat} {a1 : Va} : Wx (d + 1) 35 96 ls (a1 :: vr g j :: st) σ Q ↔ (isO g j 2 ∧ st.length ≤ 4 ∧ nlg [a1] = true) ∧ Wm d 24 [vr g j, a1] σ (Kc (d + 1) 35 99 ls st Q) := u_inv1 d35_96 rfl rfl rfl
theorem d35_99 : decode (mB 35) 99 = .ok (.ifCond .eq 18, 3) := by decide +kernel
theorem u35_99 {d : Nat} {ls : Lo} {st : List Va} {σ : Sg} {Q : Rs → Sg → Prop} {a : Int} (h : -2147483648 ≤ a ∧ a ≤ 2147483647) : Wx d 35 99 ls (vi a :: st) σ Q ↔ if a = 0 then Wx d 35 117 ls st σ Q else Wx d 35 102 ls st σ Q := u_ifeq d35_99 (by decide) h
theorem d35_102 : decode (mB 35) 102 = .ok (.aload_n 0, 1) := by decide +kernel
theorem u35_102 {d : Nat} {ls : Lo} {st : List Va} {σ : Sg} {Q : Rs → Sg → Prop} : Wx d 35 102 ls st σ Q ↔ Lr (lget ls 0) (fun z => Wx d 35 103 ls (.inr (.inl z) :: st) σ Q) := u_aload_n d35_102
theorem d35_103 : decode (mB 35) 103 = .ok (.getfield 18, 3) := by decide +kernel
theorem u35_103 {d : Nat} {ls : Lo} {st : List Va} {σ : Sg} {Q : Rs → Sg → Prop} {g j : Nat} : Wx d 35 103 ls (vr g j :: st) σ Q ↔ isO g j 3 ∧ Wx d 35 106 ls (fvv σ g j 1 :: st) σ Q := u_get (w := (3, 1)) d35_103 rfl
theorem d35_106 : decode (mB 35) 106 = .ok (.iconst 2, 1) := by decide +kernel
theorem u35_106 {d : Nat} {ls : Lo} {st : List Va} {σ : Sg} {Q : Rs → Sg → Prop} : Wx d 35 106 ls st σ Q ↔ Wx d 35 107 ls (vi 2 :: st) σ Q := u_iconst d35_106
theorem d35_107 : decode (mB 35) 107 = .ok (.invokevirtual 126, 3) := by decide +kernel
theorem u35_107 {d : Nat} {ls : Lo} {st : List Va} {σ : Sg} {Q : Rs → Sg → Prop} {g j : Nat} {a1 : Va} : Wx (d + 1) 35 107 ls (a1 :: vr g j :: st) σ Q ↔ (isO g j 2 ∧ st.length ≤ 4 ∧ nlg [a1] = true) ∧ Wm d 24 [vr g j, a1] σ (Kc (d + 1) 35 110 ls st Q) := u_inv1 d35_107 rfl rfl rfl
theorem d35_110 : decode (mB 35) 110 = .ok (.ifCond .eq 7, 3) := by decide +kernel
theorem u35_110 {d : Nat} {ls : Lo} {st : List Va} {σ : Sg} {Q : Rs → Sg → Prop} {a : Int} (h : -2147483648 ≤ a ∧ a ≤ 2147483647) : Wx d 35 110 ls (vi a :: st) σ Q ↔ if a = 0 then Wx d 35 117 ls st σ Q else Wx d 35 113 ls st σ Q := u_ifeq d35_110 (by decide) h
theorem d35_113 : decode (mB 35) 113 = .ok (.iconst 0, 1) := by decide +kernel
theorem u35_113 {d : Nat} {ls : Lo} {st : List Va} {σ : Sg} {Q : Rs → Sg → Prop} : Wx d 35 113 ls st σ Q ↔ Wx d 35 114 ls (vi 0 :: st) σ Q := u_iconst d35_113
theorem d35_114 : decode (mB 35) 114 = .ok (.goto 4, 3) := by decide +kernel
theorem u35_114 {d : Nat} {ls : Lo} {st : List Va} {σ : Sg} {Q : Rs → Sg → Prop} : Wx d 35 114 ls st σ Q ↔ Wx d 35 118 ls st σ Q := u_goto d35_114 (by decide)
theorem d35_117 : decode (mB 35) 117 = .ok (.iconst (-1), 1) := by decide +kernel
theorem u35_117 {d : Nat} {ls : Lo} {st : List Va} {σ : Sg} {Q : Rs → Sg → Prop} : Wx d 35 117 ls st σ Q ↔ Wx d 35 118 ls (vi (-1) :: st) σ Q := u_iconst d35_117
theorem d35_118 : decode (mB 35) 118 = .ok (.ireturn, 1) := by decide +kernel
theorem u35_118 {d : Nat} {ls : Lo} {σ : Sg} {Q : Rs → Sg → Prop} {z : Int} : Wx d 35 118 ls [vi z] σ Q ↔ Q (.inl (some (vi z))) σ := u_iret d35_118 rfl
/-! 36: FiguredBass$Chord.letterOf(I)I -/
theorem d36_0 : decode (mB 36) 0 = .ok (.aload_n 0, 1) := by decide +kernel
theorem u36_0 {d : Nat} {ls : Lo} {st : List Va} {σ : Sg} {Q : Rs → Sg → Prop} : Wx d 36 0 ls st σ Q ↔ Lr (lget ls 0) (fun z => Wx d 36 1 ls (.inr (.inl z) :: st) σ Q) := u_aload_n d36_0
theorem d36_1 : decode (mB 36) 1 = .ok (.getfield 28, 3) := by decide +kernel
theorem u36_1 {d : Nat} {ls : Lo} {st : List Va} {σ : Sg} {Q : Rs → Sg → Prop} {g j : Nat} : Wx d 36 1 ls (vr g j :: st) σ Q ↔ isO g j 3 ∧ Wx d 36 4 ls (fvv σ g j 4 :: st) σ Q := u_get (w := (3, 4)) d36_1 rfl
theorem d36_4 : decode (mB 36) 4 = .ok (.iload_n 1, 1) := by decide +kernel
theorem u36_4 {d : Nat} {ls : Lo} {st : List Va} {σ : Sg} {Q : Rs → Sg → Prop} : Wx d 36 4 ls st σ Q ↔ Li (lget ls 1) (fun z => Wx d 36 5 ls (vi z :: st) σ Q) := u_iload_n d36_4
theorem d36_5 : decode (mB 36) 5 = .ok (.bipush 12, 2) := by decide +kernel
theorem u36_5 {d : Nat} {ls : Lo} {st : List Va} {σ : Sg} {Q : Rs → Sg → Prop} : Wx d 36 5 ls st σ Q ↔ Wx d 36 7 ls (vi 12 :: st) σ Q := u_bipush d36_5 (by decide)
theorem d36_7 : decode (mB 36) 7 = .ok (.invokestatic 117, 3) := by decide +kernel
theorem u36_7 {d : Nat} {ls : Lo} {st : List Va} {σ : Sg} {Q : Rs → Sg → Prop} {a1 a2 : Va} : Wx (d + 1) 36 7 ls (a2 :: a1 :: st) σ Q ↔ (st.length ≤ 4 ∧ nlg [a2, a1] = true) ∧ Wm d 128 [a1, a2] σ (Kc (d + 1) 36 10 ls st Q) := u_sta2 d36_7 rfl rfl rfl (by decide) (by decide) (by decide)
theorem d36_10 : decode (mB 36) 10 = .ok (.iaload, 1) := by decide +kernel
theorem u36_10 {d : Nat} {ls : Lo} {st : List Va} {σ : Sg} {Q : Rs → Sg → Prop} {z : Int} {g j : Nat} : Wx d 36 10 ls (vi z :: vr g j :: st) σ Q ↔ On (ial σ g j z) (fun x => Wx d 36 11 ls (vi x :: st) σ Q) := u_iald d36_10
theorem d36_11 : decode (mB 36) 11 = .ok (.ireturn, 1) := by decide +kernel
theorem u36_11 {d : Nat} {ls : Lo} {σ : Sg} {Q : Rs → Sg → Prop} {z : Int} : Wx d 36 11 ls [vi z] σ Q ↔ Q (.inl (some (vi z))) σ := u_iret d36_11 rfl
/-! 37: FiguredBass$Chord.hasTone(I)Z -/
theorem d37_0 : decode (mB 37) 0 = .ok (.aload_n 0, 1) := by decide +kernel
theorem u37_0 {d : Nat} {ls : Lo} {st : List Va} {σ : Sg} {Q : Rs → Sg → Prop} : Wx d 37 0 ls st σ Q ↔ Lr (lget ls 0) (fun z => Wx d 37 1 ls (.inr (.inl z) :: st) σ Q) := u_aload_n d37_0
theorem d37_1 : decode (mB 37) 1 = .ok (.iload_n 1, 1) := by decide +kernel
theorem u37_1 {d : Nat} {ls : Lo} {st : List Va} {σ : Sg} {Q : Rs → Sg → Prop} : Wx d 37 1 ls st σ Q ↔ Li (lget ls 1) (fun z => Wx d 37 2 ls (vi z :: st) σ Q) := u_iload_n d37_1
theorem d37_2 : decode (mB 37) 2 = .ok (.invokevirtual 130, 3) := by decide +kernel
theorem u37_2 {d : Nat} {ls : Lo} {st : List Va} {σ : Sg} {Q : Rs → Sg → Prop} {g j : Nat} {a1 : Va} : Wx (d + 1) 37 2 ls (a1 :: vr g j :: st) σ Q ↔ (isO g j 3 ∧ st.length ≤ 4 ∧ nlg [a1] = true) ∧ Wm d 36 [vr g j, a1] σ (Kc (d + 1) 37 5 ls st Q) := u_inv1 d37_2 rfl rfl rfl
theorem d37_5 : decode (mB 37) 5 = .ok (.iconst (-1), 1) := by decide +kernel
theorem u37_5 {d : Nat} {ls : Lo} {st : List Va} {σ : Sg} {Q : Rs → Sg → Prop} : Wx d 37 5 ls st σ Q ↔ Wx d 37 6 ls (vi (-1) :: st) σ Q := u_iconst d37_5
theorem d37_6 : decode (mB 37) 6 = .ok (.if_icmp .eq 7, 3) := by decide +kernel
theorem u37_6 {d : Nat} {ls : Lo} {st : List Va} {σ : Sg} {Q : Rs → Sg → Prop} {a b : Int} (h : -2147483648 ≤ a ∧ a ≤ 2147483647) (h2 : -2147483648 ≤ b ∧ b ≤ 2147483647) : Wx d 37 6 ls (vi b :: vi a :: st) σ Q ↔ if a = b then Wx d 37 13 ls st σ Q else Wx d 37 9 ls st σ Q := u_iceq d37_6 (by decide) h h2
theorem d37_9 : decode (mB 37) 9 = .ok (.iconst 1, 1) := by decide +kernel
theorem u37_9 {d : Nat} {ls : Lo} {st : List Va} {σ : Sg} {Q : Rs → Sg → Prop} : Wx d 37 9 ls st σ Q ↔ Wx d 37 10 ls (vi 1 :: st) σ Q := u_iconst d37_9
theorem d37_10 : decode (mB 37) 10 = .ok (.goto 4, 3) := by decide +kernel
theorem u37_10 {d : Nat} {ls : Lo} {st : List Va} {σ : Sg} {Q : Rs → Sg → Prop} : Wx d 37 10 ls st σ Q ↔ Wx d 37 14 ls st σ Q := u_goto d37_10 (by decide)
theorem d37_13 : decode (mB 37) 13 = .ok (.iconst 0, 1) := by decide +kernel
theorem u37_13 {d : Nat} {ls : Lo} {st : List Va} {σ : Sg} {Q : Rs → Sg → Prop} : Wx d 37 13 ls st σ Q ↔ Wx d 37 14 ls (vi 0 :: st) σ Q := u_iconst d37_13
theorem d37_14 : decode (mB 37) 14 = .ok (.ireturn, 1) := by decide +kernel
theorem u37_14 {d : Nat} {ls : Lo} {σ : Sg} {Q : Rs → Sg → Prop} {z : Int} (h : z = 0 ∨ z = 1) : Wx d 37 14 ls [vi z] σ Q ↔ Q (.inl (some (vi z))) σ := u_zret d37_14 rfl h
/-! 38: FiguredBass$Chord.gather()V -/
theorem d38_0 : decode (mB 38) 0 = .ok (.aload_n 0, 1) := by decide +kernel
theorem u38_0 {d : Nat} {ls : Lo} {st : List Va} {σ : Sg} {Q : Rs → Sg → Prop} : Wx d 38 0 ls st σ Q ↔ Lr (lget ls 0) (fun z => Wx d 38 1 ls (.inr (.inl z) :: st) σ Q) := u_aload_n d38_0
theorem d38_1 : decode (mB 38) 1 = .ok (.getfield 65, 3) := by decide +kernel
theorem u38_1 {d : Nat} {ls : Lo} {st : List Va} {σ : Sg} {Q : Rs → Sg → Prop} {g j : Nat} : Wx d 38 1 ls (vr g j :: st) σ Q ↔ isO g j 3 ∧ Wx d 38 4 ls (fvv σ g j 17 :: st) σ Q := u_get (w := (3, 17)) d38_1 rfl
theorem d38_4 : decode (mB 38) 4 = .ok (.ifCond .eq 4, 3) := by decide +kernel
theorem u38_4 {d : Nat} {ls : Lo} {st : List Va} {σ : Sg} {Q : Rs → Sg → Prop} {a : Int} (h : -2147483648 ≤ a ∧ a ≤ 2147483647) : Wx d 38 4 ls (vi a :: st) σ Q ↔ if a = 0 then Wx d 38 8 ls st σ Q else Wx d 38 7 ls st σ Q := u_ifeq d38_4 (by decide) h
theorem d38_7 : decode (mB 38) 7 = .ok (.return_, 1) := by decide +kernel
theorem u38_7 {d : Nat} {ls : Lo} {σ : Sg} {Q : Rs → Sg → Prop} : Wx d 38 7 ls [] σ Q ↔ Q (.inl none) σ := u_vret d38_7 rfl
theorem d38_8 : decode (mB 38) 8 = .ok (.aload_n 0, 1) := by decide +kernel
theorem u38_8 {d : Nat} {ls : Lo} {st : List Va} {σ : Sg} {Q : Rs → Sg → Prop} : Wx d 38 8 ls st σ Q ↔ Lr (lget ls 0) (fun z => Wx d 38 9 ls (.inr (.inl z) :: st) σ Q) := u_aload_n d38_8
theorem d38_9 : decode (mB 38) 9 = .ok (.iconst 1, 1) := by decide +kernel
theorem u38_9 {d : Nat} {ls : Lo} {st : List Va} {σ : Sg} {Q : Rs → Sg → Prop} : Wx d 38 9 ls st σ Q ↔ Wx d 38 10 ls (vi 1 :: st) σ Q := u_iconst d38_9
theorem d38_10 : decode (mB 38) 10 = .ok (.putfield 65, 3) := by decide +kernel
theorem u38_10 {d : Nat} {ls : Lo} {st : List Va} {σ : Sg} {Q : Rs → Sg → Prop} {z : Int} {g j : Nat} : Wx d 38 10 ls (vi z :: vr g j :: st) σ Q ↔ (isO g j 3 ∧ rf g j 17 = none ∧ (z = 0 ∨ z = 1)) ∧ Wx d 38 13 ls st (up σ g j 17 z) Q := u_putz (w := (3, 17)) d38_10 rfl rfl rfl
theorem d38_13 : decode (mB 38) 13 = .ok (.aload_n 0, 1) := by decide +kernel
theorem u38_13 {d : Nat} {ls : Lo} {st : List Va} {σ : Sg} {Q : Rs → Sg → Prop} : Wx d 38 13 ls st σ Q ↔ Lr (lget ls 0) (fun z => Wx d 38 14 ls (.inr (.inl z) :: st) σ Q) := u_aload_n d38_13
theorem d38_14 : decode (mB 38) 14 = .ok (.iconst 0, 1) := by decide +kernel
theorem u38_14 {d : Nat} {ls : Lo} {st : List Va} {σ : Sg} {Q : Rs → Sg → Prop} : Wx d 38 14 ls st σ Q ↔ Wx d 38 15 ls (vi 0 :: st) σ Q := u_iconst d38_14
theorem d38_15 : decode (mB 38) 15 = .ok (.putfield 133, 3) := by decide +kernel
theorem u38_15 {d : Nat} {ls : Lo} {st : List Va} {σ : Sg} {Q : Rs → Sg → Prop} {z : Int} {g j : Nat} : Wx d 38 15 ls (vi z :: vr g j :: st) σ Q ↔ (isO g j 3 ∧ rf g j 16 = none) ∧ Wx d 38 18 ls st (up σ g j 16 z) Q := u_put (w := (3, 16)) d38_15 rfl rfl rfl
theorem d38_18 : decode (mB 38) 18 = .ok (.aload_n 0, 1) := by decide +kernel
theorem u38_18 {d : Nat} {ls : Lo} {st : List Va} {σ : Sg} {Q : Rs → Sg → Prop} : Wx d 38 18 ls st σ Q ↔ Lr (lget ls 0) (fun z => Wx d 38 19 ls (.inr (.inl z) :: st) σ Q) := u_aload_n d38_18
theorem d38_19 : decode (mB 38) 19 = .ok (.invokevirtual 136, 3) := by decide +kernel
theorem u38_19 {d : Nat} {ls : Lo} {st : List Va} {σ : Sg} {Q : Rs → Sg → Prop} {g j : Nat} : Wx (d + 1) 38 19 ls (vr g j :: st) σ Q ↔ (isO g j 3 ∧ st.length ≤ 4 ∧ nlg [] = true) ∧ Wm d 41 [vr g j] σ (Kc (d + 1) 38 22 ls st Q) := u_inv0 d38_19 rfl rfl rfl
theorem d38_22 : decode (mB 38) 22 = .ok (.istore_n 1, 1) := by decide +kernel
theorem u38_22 {d : Nat} {ls : Lo} {st : List Va} {σ : Sg} {Q : Rs → Sg → Prop} {z : Int} : Wx d 38 22 ls (vi z :: st) σ Q ↔ Wx d 38 23 (lset ls 1 (vi z)) st σ Q := u_istore_n d38_22 (by decide)
theorem d38_23 : decode (mB 38) 23 = .ok (.getstatic 139, 3) := by decide +kernel
theorem u38_23 {d : Nat} {ls : Lo} {st : List Va} {σ : Sg} {Q : Rs → Sg → Prop} : Wx d 38 23 ls st σ Q ↔ Wx d 38 26 ls (vr 13 1 :: st) σ Q := u_gets d38_23 rfl
theorem d38_26 : decode (mB 38) 26 = .ok (.iconst 0, 1) := by decide +kernel
theorem u38_26 {d : Nat} {ls : Lo} {st : List Va} {σ : Sg} {Q : Rs → Sg → Prop} : Wx d 38 26 ls st σ Q ↔ Wx d 38 27 ls (vi 0 :: st) σ Q := u_iconst d38_26
theorem d38_27 : decode (mB 38) 27 = .ok (.iaload, 1) := by decide +kernel
theorem u38_27 {d : Nat} {ls : Lo} {st : List Va} {σ : Sg} {Q : Rs → Sg → Prop} {z : Int} {g j : Nat} : Wx d 38 27 ls (vi z :: vr g j :: st) σ Q ↔ On (ial σ g j z) (fun x => Wx d 38 28 ls (vi x :: st) σ Q) := u_iald d38_27
theorem d38_28 : decode (mB 38) 28 = .ok (.istore_n 2, 1) := by decide +kernel
theorem u38_28 {d : Nat} {ls : Lo} {st : List Va} {σ : Sg} {Q : Rs → Sg → Prop} {z : Int} : Wx d 38 28 ls (vi z :: st) σ Q ↔ Wx d 38 29 (lset ls 2 (vi z)) st σ Q := u_istore_n d38_28 (by decide)
theorem d38_29 : decode (mB 38) 29 = .ok (.iload_n 2, 1) := by decide +kernel
theorem u38_29 {d : Nat} {ls : Lo} {st : List Va} {σ : Sg} {Q : Rs → Sg → Prop} : Wx d 38 29 ls st σ Q ↔ Li (lget ls 2) (fun z => Wx d 38 30 ls (vi z :: st) σ Q) := u_iload_n d38_29
theorem d38_30 : decode (mB 38) 30 = .ok (.getstatic 142, 3) := by decide +kernel
theorem u38_30 {d : Nat} {ls : Lo} {st : List Va} {σ : Sg} {Q : Rs → Sg → Prop} : Wx d 38 30 ls st σ Q ↔ Wx d 38 33 ls (vr 13 2 :: st) σ Q := u_gets d38_30 rfl
theorem d38_33 : decode (mB 38) 33 = .ok (.iconst 0, 1) := by decide +kernel
theorem u38_33 {d : Nat} {ls : Lo} {st : List Va} {σ : Sg} {Q : Rs → Sg → Prop} : Wx d 38 33 ls st σ Q ↔ Wx d 38 34 ls (vi 0 :: st) σ Q := u_iconst d38_33
theorem d38_34 : decode (mB 38) 34 = .ok (.iaload, 1) := by decide +kernel
theorem u38_34 {d : Nat} {ls : Lo} {st : List Va} {σ : Sg} {Q : Rs → Sg → Prop} {z : Int} {g j : Nat} : Wx d 38 34 ls (vi z :: vr g j :: st) σ Q ↔ On (ial σ g j z) (fun x => Wx d 38 35 ls (vi x :: st) σ Q) := u_iald d38_34
theorem d38_35 : decode (mB 38) 35 = .ok (.if_icmp .gt 74, 3) := by decide +kernel
theorem u38_35 {d : Nat} {ls : Lo} {st : List Va} {σ : Sg} {Q : Rs → Sg → Prop} {a b : Int} (h : -2147483648 ≤ a ∧ a ≤ 2147483647) (h2 : -2147483648 ≤ b ∧ b ≤ 2147483647) : Wx d 38 35 ls (vi b :: vi a :: st) σ Q ↔ if b < a then Wx d 38 109 ls st σ Q else Wx d 38 38 ls st σ Q := u_icgt d38_35 (by decide) h h2
theorem d38_38 : decode (mB 38) 38 = .ok (.getstatic 139, 3) := by decide +kernel
theorem u38_38 {d : Nat} {ls : Lo} {st : List Va} {σ : Sg} {Q : Rs → Sg → Prop} : Wx d 38 38 ls st σ Q ↔ Wx d 38 41 ls (vr 13 1 :: st) σ Q := u_gets d38_38 rfl
theorem d38_41 : decode (mB 38) 41 = .ok (.iconst 1, 1) := by decide +kernel
theorem u38_41 {d : Nat} {ls : Lo} {st : List Va} {σ : Sg} {Q : Rs → Sg → Prop} : Wx d 38 41 ls st σ Q ↔ Wx d 38 42 ls (vi 1 :: st) σ Q := u_iconst d38_41
theorem d38_42 : decode (mB 38) 42 = .ok (.iaload, 1) := by decide +kernel
theorem u38_42 {d : Nat} {ls : Lo} {st : List Va} {σ : Sg} {Q : Rs → Sg → Prop} {z : Int} {g j : Nat} : Wx d 38 42 ls (vi z :: vr g j :: st) σ Q ↔ On (ial σ g j z) (fun x => Wx d 38 43 ls (vi x :: st) σ Q) := u_iald d38_42
theorem d38_43 : decode (mB 38) 43 = .ok (.iload_n 2, 1) := by decide +kernel
theorem u38_43 {d : Nat} {ls : Lo} {st : List Va} {σ : Sg} {Q : Rs → Sg → Prop} : Wx d 38 43 ls st σ Q ↔ Li (lget ls 2) (fun z => Wx d 38 44 ls (vi z :: st) σ Q) := u_iload_n d38_43
theorem d38_44 : decode (mB 38) 44 = .ok (.bipush 12, 2) := by decide +kernel
theorem u38_44 {d : Nat} {ls : Lo} {st : List Va} {σ : Sg} {Q : Rs → Sg → Prop} : Wx d 38 44 ls st σ Q ↔ Wx d 38 46 ls (vi 12 :: st) σ Q := u_bipush d38_44 (by decide)
theorem d38_46 : decode (mB 38) 46 = .ok (.isub, 1) := by decide +kernel
theorem u38_46 {d : Nat} {ls : Lo} {st : List Va} {σ : Sg} {Q : Rs → Sg → Prop} {a b : Int} : Wx d 38 46 ls (vi b :: vi a :: st) σ Q ↔ Wx d 38 47 ls (vi (a - b) :: st) σ Q := u_isub d38_46
theorem d38_47 : decode (mB 38) 47 = .ok (.invokestatic 145, 3) := by decide +kernel
theorem u38_47 {d : Nat} {ls : Lo} {st : List Va} {σ : Sg} {Q : Rs → Sg → Prop} {a b : Int} (h : -2147483648 ≤ a ∧ a ≤ 2147483647) (h2 : -2147483648 ≤ b ∧ b ≤ 2147483647) (hl : st.length ≤ 4) : Wx d 38 47 ls (vi b :: vi a :: st) σ Q ↔ Wx d 38 50 ls (vi (max a b) :: st) σ Q := u_max d38_47 rfl h h2 hl
theorem d38_50 : decode (mB 38) 50 = .ok (.istore_n 3, 1) := by decide +kernel
theorem u38_50 {d : Nat} {ls : Lo} {st : List Va} {σ : Sg} {Q : Rs → Sg → Prop} {z : Int} : Wx d 38 50 ls (vi z :: st) σ Q ↔ Wx d 38 51 (lset ls 3 (vi z)) st σ Q := u_istore_n d38_50 (by decide)
theorem d38_51 : decode (mB 38) 51 = .ok (.getstatic 142, 3) := by decide +kernel
theorem u38_51 {d : Nat} {ls : Lo} {st : List Va} {σ : Sg} {Q : Rs → Sg → Prop} : Wx d 38 51 ls st σ Q ↔ Wx d 38 54 ls (vr 13 2 :: st) σ Q := u_gets d38_51 rfl
theorem d38_54 : decode (mB 38) 54 = .ok (.iconst 1, 1) := by decide +kernel
theorem u38_54 {d : Nat} {ls : Lo} {st : List Va} {σ : Sg} {Q : Rs → Sg → Prop} : Wx d 38 54 ls st σ Q ↔ Wx d 38 55 ls (vi 1 :: st) σ Q := u_iconst d38_54
theorem d38_55 : decode (mB 38) 55 = .ok (.iaload, 1) := by decide +kernel
theorem u38_55 {d : Nat} {ls : Lo} {st : List Va} {σ : Sg} {Q : Rs → Sg → Prop} {z : Int} {g j : Nat} : Wx d 38 55 ls (vi z :: vr g j :: st) σ Q ↔ On (ial σ g j z) (fun x => Wx d 38 56 ls (vi x :: st) σ Q) := u_iald d38_55
theorem d38_56 : decode (mB 38) 56 = .ok (.iload_n 2, 1) := by decide +kernel
theorem u38_56 {d : Nat} {ls : Lo} {st : List Va} {σ : Sg} {Q : Rs → Sg → Prop} : Wx d 38 56 ls st σ Q ↔ Li (lget ls 2) (fun z => Wx d 38 57 ls (vi z :: st) σ Q) := u_iload_n d38_56
theorem d38_57 : decode (mB 38) 57 = .ok (.invokestatic 148, 3) := by decide +kernel
theorem u38_57 {d : Nat} {ls : Lo} {st : List Va} {σ : Sg} {Q : Rs → Sg → Prop} {a b : Int} (h : -2147483648 ≤ a ∧ a ≤ 2147483647) (h2 : -2147483648 ≤ b ∧ b ≤ 2147483647) (hl : st.length ≤ 4) : Wx d 38 57 ls (vi b :: vi a :: st) σ Q ↔ Wx d 38 60 ls (vi (min a b) :: st) σ Q := u_min d38_57 rfl h h2 hl
theorem d38_60 : decode (mB 38) 60 = .ok (.istore 4, 2) := by decide +kernel
theorem u38_60 {d : Nat} {ls : Lo} {st : List Va} {σ : Sg} {Q : Rs → Sg → Prop} {z : Int} : Wx d 38 60 ls (vi z :: st) σ Q ↔ Wx d 38 62 (lset ls 4 (vi z)) st σ Q := u_istore d38_60 (by decide)
theorem d38_62 : decode (mB 38) 62 = .ok (.iload_n 3, 1) := by decide +kernel
theorem u38_62 {d : Nat} {ls : Lo} {st : List Va} {σ : Sg} {Q : Rs → Sg → Prop} : Wx d 38 62 ls st σ Q ↔ Li (lget ls 3) (fun z => Wx d 38 63 ls (vi z :: st) σ Q) := u_iload_n d38_62
theorem d38_63 : decode (mB 38) 63 = .ok (.istore 5, 2) := by decide +kernel
theorem u38_63 {d : Nat} {ls : Lo} {st : List Va} {σ : Sg} {Q : Rs → Sg → Prop} {z : Int} : Wx d 38 63 ls (vi z :: st) σ Q ↔ Wx d 38 65 (lset ls 5 (vi z)) st σ Q := u_istore d38_63 (by decide)
theorem d38_65 : decode (mB 38) 65 = .ok (.iload 5, 2) := by decide +kernel
theorem u38_65 {d : Nat} {ls : Lo} {st : List Va} {σ : Sg} {Q : Rs → Sg → Prop} : Wx d 38 65 ls st σ Q ↔ Li (lget ls 5) (fun z => Wx d 38 67 ls (vi z :: st) σ Q) := u_iload d38_65
theorem d38_67 : decode (mB 38) 67 = .ok (.iload 4, 2) := by decide +kernel
theorem u38_67 {d : Nat} {ls : Lo} {st : List Va} {σ : Sg} {Q : Rs → Sg → Prop} : Wx d 38 67 ls st σ Q ↔ Li (lget ls 4) (fun z => Wx d 38 69 ls (vi z :: st) σ Q) := u_iload d38_67
theorem d38_69 : decode (mB 38) 69 = .ok (.if_icmp .gt 34, 3) := by decide +kernel
theorem u38_69 {d : Nat} {ls : Lo} {st : List Va} {σ : Sg} {Q : Rs → Sg → Prop} {a b : Int} (h : -2147483648 ≤ a ∧ a ≤ 2147483647) (h2 : -2147483648 ≤ b ∧ b ≤ 2147483647) : Wx d 38 69 ls (vi b :: vi a :: st) σ Q ↔ if b < a then Wx d 38 103 ls st σ Q else Wx d 38 72 ls st σ Q := u_icgt d38_69 (by decide) h h2
theorem d38_72 : decode (mB 38) 72 = .ok (.aload_n 0, 1) := by decide +kernel
theorem u38_72 {d : Nat} {ls : Lo} {st : List Va} {σ : Sg} {Q : Rs → Sg → Prop} : Wx d 38 72 ls st σ Q ↔ Lr (lget ls 0) (fun z => Wx d 38 73 ls (.inr (.inl z) :: st) σ Q) := u_aload_n d38_72
theorem d38_73 : decode (mB 38) 73 = .ok (.iload_n 2, 1) := by decide +kernel
theorem u38_73 {d : Nat} {ls : Lo} {st : List Va} {σ : Sg} {Q : Rs → Sg → Prop} : Wx d 38 73 ls st σ Q ↔ Li (lget ls 2) (fun z => Wx d 38 74 ls (vi z :: st) σ Q) := u_iload_n d38_73
theorem d38_74 : decode (mB 38) 74 = .ok (.invokevirtual 151, 3) := by decide +kernel
theorem u38_74 {d : Nat} {ls : Lo} {st : List Va} {σ : Sg} {Q : Rs → Sg → Prop} {g j : Nat} {a1 : Va} : Wx (d + 1) 38 74 ls (a1 :: vr g j :: st) σ Q ↔ (isO g j 3 ∧ st.length ≤ 4 ∧ nlg [a1] = true) ∧ Wm d 37 [vr g j, a1] σ (Kc (d + 1) 38 77 ls st Q) := u_inv1 d38_74 rfl rfl rfl
theorem d38_77 : decode (mB 38) 77 = .ok (.ifCond .eq 20, 3) := by decide +kernel
theorem u38_77 {d : Nat} {ls : Lo} {st : List Va} {σ : Sg} {Q : Rs → Sg → Prop} {a : Int} (h : -2147483648 ≤ a ∧ a ≤ 2147483647) : Wx d 38 77 ls (vi a :: st) σ Q ↔ if a = 0 then Wx d 38 97 ls st σ Q else Wx d 38 80 ls st σ Q := u_ifeq d38_77 (by decide) h
theorem d38_80 : decode (mB 38) 80 = .ok (.aload_n 0, 1) := by decide +kernel
theorem u38_80 {d : Nat} {ls : Lo} {st : List Va} {σ : Sg} {Q : Rs → Sg → Prop} : Wx d 38 80 ls st σ Q ↔ Lr (lget ls 0) (fun z => Wx d 38 81 ls (.inr (.inl z) :: st) σ Q) := u_aload_n d38_80
theorem d38_81 : decode (mB 38) 81 = .ok (.iload 5, 2) := by decide +kernel
theorem u38_81 {d : Nat} {ls : Lo} {st : List Va} {σ : Sg} {Q : Rs → Sg → Prop} : Wx d 38 81 ls st σ Q ↔ Li (lget ls 5) (fun z => Wx d 38 83 ls (vi z :: st) σ Q) := u_iload d38_81
theorem d38_83 : decode (mB 38) 83 = .ok (.invokevirtual 151, 3) := by decide +kernel
theorem u38_83 {d : Nat} {ls : Lo} {st : List Va} {σ : Sg} {Q : Rs → Sg → Prop} {g j : Nat} {a1 : Va} : Wx (d + 1) 38 83 ls (a1 :: vr g j :: st) σ Q ↔ (isO g j 3 ∧ st.length ≤ 4 ∧ nlg [a1] = true) ∧ Wm d 37 [vr g j, a1] σ (Kc (d + 1) 38 86 ls st Q) := u_inv1 d38_83 rfl rfl rfl
theorem d38_86 : decode (mB 38) 86 = .ok (.ifCond .eq 11, 3) := by decide +kernel
theorem u38_86 {d : Nat} {ls : Lo} {st : List Va} {σ : Sg} {Q : Rs → Sg → Prop} {a : Int} (h : -2147483648 ≤ a ∧ a ≤ 2147483647) : Wx d 38 86 ls (vi a :: st) σ Q ↔ if a = 0 then Wx d 38 97 ls st σ Q else Wx d 38 89 ls st σ Q := u_ifeq d38_86 (by decide) h
theorem d38_89 : decode (mB 38) 89 = .ok (.aload_n 0, 1) := by decide +kernel
theorem u38_89 {d : Nat} {ls : Lo} {st : List Va} {σ : Sg} {Q : Rs → Sg → Prop} : Wx d 38 89 ls st σ Q ↔ Lr (lget ls 0) (fun z => Wx d 38 90 ls (.inr (.inl z) :: st) σ Q) := u_aload_n d38_89
theorem d38_90 : decode (mB 38) 90 = .ok (.iload_n 2, 1) := by decide +kernel
theorem u38_90 {d : Nat} {ls : Lo} {st : List Va} {σ : Sg} {Q : Rs → Sg → Prop} : Wx d 38 90 ls st σ Q ↔ Li (lget ls 2) (fun z => Wx d 38 91 ls (vi z :: st) σ Q) := u_iload_n d38_90
theorem d38_91 : decode (mB 38) 91 = .ok (.iload 5, 2) := by decide +kernel
theorem u38_91 {d : Nat} {ls : Lo} {st : List Va} {σ : Sg} {Q : Rs → Sg → Prop} : Wx d 38 91 ls st σ Q ↔ Li (lget ls 5) (fun z => Wx d 38 93 ls (vi z :: st) σ Q) := u_iload d38_91
theorem d38_93 : decode (mB 38) 93 = .ok (.iload_n 1, 1) := by decide +kernel
theorem u38_93 {d : Nat} {ls : Lo} {st : List Va} {σ : Sg} {Q : Rs → Sg → Prop} : Wx d 38 93 ls st σ Q ↔ Li (lget ls 1) (fun z => Wx d 38 94 ls (vi z :: st) σ Q) := u_iload_n d38_93
theorem d38_94 : decode (mB 38) 94 = .ok (.invokevirtual 154, 3) := by decide +kernel
theorem u38_94 {d : Nat} {ls : Lo} {st : List Va} {σ : Sg} {Q : Rs → Sg → Prop} {g j : Nat} {a1 a2 a3 : Va} : Wx (d + 1) 38 94 ls (a3 :: a2 :: a1 :: vr g j :: st) σ Q ↔ (isO g j 3 ∧ st.length ≤ 4 ∧ nlg [a3, a2, a1] = true) ∧ Wm d 39 [vr g j, a1, a2, a3] σ (Kc (d + 1) 38 97 ls st Q) := u_inv3 d38_94 rfl rfl rfl
theorem d38_97 : decode (mB 38) 97 = .ok (.iinc 5 1, 3) := by decide +kernel
theorem u38_97 {d : Nat} {ls : Lo} {st : List Va} {σ : Sg} {Q : Rs → Sg → Prop} : Wx d 38 97 ls st σ Q ↔ Li (lget ls 5) (fun z => Wx d 38 100 (lset ls 5 (vi (z + 1))) st σ Q) := u_iinc d38_97 (by decide)
theorem d38_100 : decode (mB 38) 100 = .ok (.goto (-35), 3) := by decide +kernel
theorem u38_100 {d : Nat} {ls : Lo} {st : List Va} {σ : Sg} {Q : Rs → Sg → Prop} : Wx d 38 100 ls st σ Q ↔ Wx d 38 65 ls st σ Q := u_goto d38_100 (by decide)
theorem d38_103 : decode (mB 38) 103 = .ok (.iinc 2 1, 3) := by decide +kernel
theorem u38_103 {d : Nat} {ls : Lo} {st : List Va} {σ : Sg} {Q : Rs → Sg → Prop} : Wx d 38 103 ls st σ Q ↔ Li (lget ls 2) (fun z => Wx d 38 106 (lset ls 2 (vi (z + 1))) st σ Q) := u_iinc d38_103 (by decide)
theorem d38_106 : decode (mB 38) 106 = .ok (.goto (-77), 3) := by decide +kernel
theorem u38_106 {d : Nat} {ls : Lo} {st : List Va} {σ : Sg} {Q : Rs → Sg → Prop} : Wx d 38 106 ls st σ Q ↔ Wx d 38 29 ls st σ Q := u_goto d38_106 (by decide)
theorem d38_109 : decode (mB 38) 109 = .ok (.return_, 1) := by decide +kernel
theorem u38_109 {d : Nat} {ls : Lo} {σ : Sg} {Q : Rs → Sg → Prop} : Wx d 38 109 ls [] σ Q ↔ Q (.inl none) σ := u_vret d38_109 rfl
/-! 39: FiguredBass$Chord.gatherTenors(III)V -/
theorem d39_0 : decode (mB 39) 0 = .ok (.getstatic 139, 3) := by decide +kernel
theorem u39_0 {d : Nat} {ls : Lo} {st : List Va} {σ : Sg} {Q : Rs → Sg → Prop} : Wx d 39 0 ls st σ Q ↔ Wx d 39 3 ls (vr 13 1 :: st) σ Q := u_gets d39_0 rfl
theorem d39_3 : decode (mB 39) 3 = .ok (.iconst 2, 1) := by decide +kernel
theorem u39_3 {d : Nat} {ls : Lo} {st : List Va} {σ : Sg} {Q : Rs → Sg → Prop} : Wx d 39 3 ls st σ Q ↔ Wx d 39 4 ls (vi 2 :: st) σ Q := u_iconst d39_3
theorem d39_4 : decode (mB 39) 4 = .ok (.iaload, 1) := by decide +kernel
theorem u39_4 {d : Nat} {ls : Lo} {st : List Va} {σ : Sg} {Q : Rs → Sg → Prop} {z : Int} {g j : Nat} : Wx d 39 4 ls (vi z :: vr g j :: st) σ Q ↔ On (ial σ g j z) (fun x => Wx d 39 5 ls (vi x :: st) σ Q) := u_iald d39_4
theorem d39_5 : decode (mB 39) 5 = .ok (.aload_n 0, 1) := by decide +kernel
theorem u39_5 {d : Nat} {ls : Lo} {st : List Va} {σ : Sg} {Q : Rs → Sg → Prop} : Wx d 39 5 ls st σ Q ↔ Lr (lget ls 0) (fun z => Wx d 39 6 ls (.inr (.inl z) :: st) σ Q) := u_aload_n d39_5
theorem d39_6 : decode (mB 39) 6 = .ok (.getfield 37, 3) := by decide +kernel
theorem u39_6 {d : Nat} {ls : Lo} {st : List Va} {σ : Sg} {Q : Rs → Sg → Prop} {g j : Nat} : Wx d 39 6 ls (vr g j :: st) σ Q ↔ isO g j 3 ∧ Wx d 39 9 ls (fvv σ g j 9 :: st) σ Q := u_get (w := (3, 9)) d39_6 rfl
theorem d39_9 : decode (mB 39) 9 = .ok (.invokestatic 145, 3) := by decide +kernel
theorem u39_9 {d : Nat} {ls : Lo} {st : List Va} {σ : Sg} {Q : Rs → Sg → Prop} {a b : Int} (h : -2147483648 ≤ a ∧ a ≤ 2147483647) (h2 : -2147483648 ≤ b ∧ b ≤ 2147483647) (hl : st.length ≤ 4) : Wx d 39 9 ls (vi b :: vi a :: st) σ Q ↔ Wx d 39 12 ls (vi (max a b) :: st) σ Q := u_max d39_9 rfl h h2 hl
theorem d39_12 : decode (mB 39) 12 = .ok (.iload_n 2, 1) := by decide +kernel
theorem u39_12 {d : Nat} {ls : Lo} {st : List Va} {σ : Sg} {Q : Rs → Sg → Prop} : Wx d 39 12 ls st σ Q ↔ Li (lget ls 2) (fun z => Wx d 39 13 ls (vi z :: st) σ Q) := u_iload_n d39_12
theorem d39_13 : decode (mB 39) 13 = .ok (.bipush 12, 2) := by decide +kernel
theorem u39_13 {d : Nat} {ls : Lo} {st : List Va} {σ : Sg} {Q : Rs → Sg → Prop} : Wx d 39 13 ls st σ Q ↔ Wx d 39 15 ls (vi 12 :: st) σ Q := u_bipush d39_13 (by decide)
theorem d39_15 : decode (mB 39) 15 = .ok (.isub, 1) := by decide +kernel
theorem u39_15 {d : Nat} {ls : Lo} {st : List Va} {σ : Sg} {Q : Rs → Sg → Prop} {a b : Int} : Wx d 39 15 ls (vi b :: vi a :: st) σ Q ↔ Wx d 39 16 ls (vi (a - b) :: st) σ Q := u_isub d39_15
theorem d39_16 : decode (mB 39) 16 = .ok (.invokestatic 145, 3) := by decide +kernel
theorem u39_16 {d : Nat} {ls : Lo} {st : List Va} {σ : Sg} {Q : Rs → Sg → Prop} {a b : Int} (h : -2147483648 ≤ a ∧ a ≤ 2147483647) (h2 : -2147483648 ≤ b ∧ b ≤ 2147483647) (hl : st.length ≤ 4) : Wx d 39 16 ls (vi b :: vi a :: st) σ Q ↔ Wx d 39 19 ls (vi (max a b) :: st) σ Q := u_max d39_16 rfl h h2 hl
theorem d39_19 : decode (mB 39) 19 = .ok (.istore 4, 2) := by decide +kernel
theorem u39_19 {d : Nat} {ls : Lo} {st : List Va} {σ : Sg} {Q : Rs → Sg → Prop} {z : Int} : Wx d 39 19 ls (vi z :: st) σ Q ↔ Wx d 39 21 (lset ls 4 (vi z)) st σ Q := u_istore d39_19 (by decide)
theorem d39_21 : decode (mB 39) 21 = .ok (.getstatic 142, 3) := by decide +kernel
theorem u39_21 {d : Nat} {ls : Lo} {st : List Va} {σ : Sg} {Q : Rs → Sg → Prop} : Wx d 39 21 ls st σ Q ↔ Wx d 39 24 ls (vr 13 2 :: st) σ Q := u_gets d39_21 rfl
theorem d39_24 : decode (mB 39) 24 = .ok (.iconst 2, 1) := by decide +kernel
theorem u39_24 {d : Nat} {ls : Lo} {st : List Va} {σ : Sg} {Q : Rs → Sg → Prop} : Wx d 39 24 ls st σ Q ↔ Wx d 39 25 ls (vi 2 :: st) σ Q := u_iconst d39_24
theorem d39_25 : decode (mB 39) 25 = .ok (.iaload, 1) := by decide +kernel
theorem u39_25 {d : Nat} {ls : Lo} {st : List Va} {σ : Sg} {Q : Rs → Sg → Prop} {z : Int} {g j : Nat} : Wx d 39 25 ls (vi z :: vr g j :: st) σ Q ↔ On (ial σ g j z) (fun x => Wx d 39 26 ls (vi x :: st) σ Q) := u_iald d39_25
theorem d39_26 : decode (mB 39) 26 = .ok (.iload_n 2, 1) := by decide +kernel
theorem u39_26 {d : Nat} {ls : Lo} {st : List Va} {σ : Sg} {Q : Rs → Sg → Prop} : Wx d 39 26 ls st σ Q ↔ Li (lget ls 2) (fun z => Wx d 39 27 ls (vi z :: st) σ Q) := u_iload_n d39_26
theorem d39_27 : decode (mB 39) 27 = .ok (.invokestatic 148, 3) := by decide +kernel
theorem u39_27 {d : Nat} {ls : Lo} {st : List Va} {σ : Sg} {Q : Rs → Sg → Prop} {a b : Int} (h : -2147483648 ≤ a ∧ a ≤ 2147483647) (h2 : -2147483648 ≤ b ∧ b ≤ 2147483647) (hl : st.length ≤ 4) : Wx d 39 27 ls (vi b :: vi a :: st) σ Q ↔ Wx d 39 30 ls (vi (min a b) :: st) σ Q := u_min d39_27 rfl h h2 hl
theorem d39_30 : decode (mB 39) 30 = .ok (.istore 5, 2) := by decide +kernel
theorem u39_30 {d : Nat} {ls : Lo} {st : List Va} {σ : Sg} {Q : Rs → Sg → Prop} {z : Int} : Wx d 39 30 ls (vi z :: st) σ Q ↔ Wx d 39 32 (lset ls 5 (vi z)) st σ Q := u_istore d39_30 (by decide)
theorem d39_32 : decode (mB 39) 32 = .ok (.iload 4, 2) := by decide +kernel
theorem u39_32 {d : Nat} {ls : Lo} {st : List Va} {σ : Sg} {Q : Rs → Sg → Prop} : Wx d 39 32 ls st σ Q ↔ Li (lget ls 4) (fun z => Wx d 39 34 ls (vi z :: st) σ Q) := u_iload d39_32
theorem d39_34 : decode (mB 39) 34 = .ok (.istore 6, 2) := by decide +kernel
theorem u39_34 {d : Nat} {ls : Lo} {st : List Va} {σ : Sg} {Q : Rs → Sg → Prop} {z : Int} : Wx d 39 34 ls (vi z :: st) σ Q ↔ Wx d 39 36 (lset ls 6 (vi z)) st σ Q := u_istore d39_34 (by decide)
theorem d39_36 : decode (mB 39) 36 = .ok (.iload 6, 2) := by decide +kernel
theorem u39_36 {d : Nat} {ls : Lo} {st : List Va} {σ : Sg} {Q : Rs → Sg → Prop} : Wx d 39 36 ls st σ Q ↔ Li (lget ls 6) (fun z => Wx d 39 38 ls (vi z :: st) σ Q) := u_iload d39_36
theorem d39_38 : decode (mB 39) 38 = .ok (.iload 5, 2) := by decide +kernel
theorem u39_38 {d : Nat} {ls : Lo} {st : List Va} {σ : Sg} {Q : Rs → Sg → Prop} : Wx d 39 38 ls st σ Q ↔ Li (lget ls 5) (fun z => Wx d 39 40 ls (vi z :: st) σ Q) := u_iload d39_38
theorem d39_40 : decode (mB 39) 40 = .ok (.if_icmp .gt 59, 3) := by decide +kernel
theorem u39_40 {d : Nat} {ls : Lo} {st : List Va} {σ : Sg} {Q : Rs → Sg → Prop} {a b : Int} (h : -2147483648 ≤ a ∧ a ≤ 2147483647) (h2 : -2147483648 ≤ b ∧ b ≤ 2147483647) : Wx d 39 40 ls (vi b :: vi a :: st) σ Q ↔ if b < a then Wx d 39 99 ls st σ Q else Wx d 39 43 ls st σ Q := u_icgt d39_40 (by decide) h h2
theorem d39_43 : decode (mB 39) 43 = .ok (.iload_n 1, 1) := by decide +kernel
theorem u39_43 {d : Nat} {ls : Lo} {st : List Va} {σ : Sg} {Q : Rs → Sg → Prop} : Wx d 39 43 ls st σ Q ↔ Li (lget ls 1) (fun z => Wx d 39 44 ls (vi z :: st) σ Q) := u_iload_n d39_43
theorem d39_44 : decode (mB 39) 44 = .ok (.invokestatic 158, 3) := by decide +kernel
theorem u39_44 {d : Nat} {ls : Lo} {st : List Va} {σ : Sg} {Q : Rs → Sg → Prop} {a1 : Va} : Wx (d + 1) 39 44 ls (a1 :: st) σ Q ↔ (st.length ≤ 4 ∧ nlg [a1] = true) ∧ Wm d 42 [a1] σ (Kc (d + 1) 39 47 ls st Q) := u_sta1 d39_44 rfl rfl rfl (by decide) (by decide) (by decide)
theorem d39_47 : decode (mB 39) 47 = .ok (.iload_n 2, 1) := by decide +kernel
theorem u39_47 {d : Nat} {ls : Lo} {st : List Va} {σ : Sg} {Q : Rs → Sg → Prop} : Wx d 39 47 ls st σ Q ↔ Li (lget ls 2) (fun z => Wx d 39 48 ls (vi z :: st) σ Q) := u_iload_n d39_47
theorem d39_48 : decode (mB 39) 48 = .ok (.invokestatic 158, 3) := by decide +kernel
theorem u39_48 {d : Nat} {ls : Lo} {st : List Va} {σ : Sg} {Q : Rs → Sg → Prop} {a1 : Va} : Wx (d + 1) 39 48 ls (a1 :: st) σ Q ↔ (st.length ≤ 4 ∧ nlg [a1] = true) ∧ Wm d 42 [a1] σ (Kc (d + 1) 39 51 ls st Q) := u_sta1 d39_48 rfl rfl rfl (by decide) (by decide) (by decide)
theorem d39_51 : decode (mB 39) 51 = .ok (.ior, 1) := by decide +kernel
theorem u39_51 {d : Nat} {ls : Lo} {st : List Va} {σ : Sg} {Q : Rs → Sg → Prop} {a b : Int} : Wx d 39 51 ls (vi b :: vi a :: st) σ Q ↔ Wx d 39 52 ls (vi ((i3 a ||| i3 b).toInt) :: st) σ Q := u_ior d39_51
theorem d39_52 : decode (mB 39) 52 = .ok (.iload 6, 2) := by decide +kernel
theorem u39_52 {d : Nat} {ls : Lo} {st : List Va} {σ : Sg} {Q : Rs → Sg → Prop} : Wx d 39 52 ls st σ Q ↔ Li (lget ls 6) (fun z => Wx d 39 54 ls (vi z :: st) σ Q) := u_iload d39_52
theorem d39_54 : decode (mB 39) 54 = .ok (.invokestatic 158, 3) := by decide +kernel
theorem u39_54 {d : Nat} {ls : Lo} {st : List Va} {σ : Sg} {Q : Rs → Sg → Prop} {a1 : Va} : Wx (d + 1) 39 54 ls (a1 :: st) σ Q ↔ (st.length ≤ 4 ∧ nlg [a1] = true) ∧ Wm d 42 [a1] σ (Kc (d + 1) 39 57 ls st Q) := u_sta1 d39_54 rfl rfl rfl (by decide) (by decide) (by decide)
theorem d39_57 : decode (mB 39) 57 = .ok (.ior, 1) := by decide +kernel
theorem u39_57 {d : Nat} {ls : Lo} {st : List Va} {σ : Sg} {Q : Rs → Sg → Prop} {a b : Int} : Wx d 39 57 ls (vi b :: vi a :: st) σ Q ↔ Wx d 39 58 ls (vi ((i3 a ||| i3 b).toInt) :: st) σ Q := u_ior d39_57
theorem d39_58 : decode (mB 39) 58 = .ok (.aload_n 0, 1) := by decide +kernel
theorem u39_58 {d : Nat} {ls : Lo} {st : List Va} {σ : Sg} {Q : Rs → Sg → Prop} : Wx d 39 58 ls st σ Q ↔ Lr (lget ls 0) (fun z => Wx d 39 59 ls (.inr (.inl z) :: st) σ Q) := u_aload_n d39_58
theorem d39_59 : decode (mB 39) 59 = .ok (.getfield 37, 3) := by decide +kernel
theorem u39_59 {d : Nat} {ls : Lo} {st : List Va} {σ : Sg} {Q : Rs → Sg → Prop} {g j : Nat} : Wx d 39 59 ls (vr g j :: st) σ Q ↔ isO g j 3 ∧ Wx d 39 62 ls (fvv σ g j 9 :: st) σ Q := u_get (w := (3, 9)) d39_59 rfl
theorem d39_62 : decode (mB 39) 62 = .ok (.invokestatic 158, 3) := by decide +kernel
theorem u39_62 {d : Nat} {ls : Lo} {st : List Va} {σ : Sg} {Q : Rs → Sg → Prop} {a1 : Va} : Wx (d + 1) 39 62 ls (a1 :: st) σ Q ↔ (st.length ≤ 4 ∧ nlg [a1] = true) ∧ Wm d 42 [a1] σ (Kc (d + 1) 39 65 ls st Q) := u_sta1 d39_62 rfl rfl rfl (by decide) (by decide) (by decide)
theorem d39_65 : decode (mB 39) 65 = .ok (.ior, 1) := by decide +kernel
theorem u39_65 {d : Nat} {ls : Lo} {st : List Va} {σ : Sg} {Q : Rs → Sg → Prop} {a b : Int} : Wx d 39 65 ls (vi b :: vi a :: st) σ Q ↔ Wx d 39 66 ls (vi ((i3 a ||| i3 b).toInt) :: st) σ Q := u_ior d39_65
theorem d39_66 : decode (mB 39) 66 = .ok (.istore 7, 2) := by decide +kernel
theorem u39_66 {d : Nat} {ls : Lo} {st : List Va} {σ : Sg} {Q : Rs → Sg → Prop} {z : Int} : Wx d 39 66 ls (vi z :: st) σ Q ↔ Wx d 39 68 (lset ls 7 (vi z)) st σ Q := u_istore d39_66 (by decide)
theorem d39_68 : decode (mB 39) 68 = .ok (.aload_n 0, 1) := by decide +kernel
theorem u39_68 {d : Nat} {ls : Lo} {st : List Va} {σ : Sg} {Q : Rs → Sg → Prop} : Wx d 39 68 ls st σ Q ↔ Lr (lget ls 0) (fun z => Wx d 39 69 ls (.inr (.inl z) :: st) σ Q) := u_aload_n d39_68
theorem d39_69 : decode (mB 39) 69 = .ok (.iload 6, 2) := by decide +kernel
theorem u39_69 {d : Nat} {ls : Lo} {st : List Va} {σ : Sg} {Q : Rs → Sg → Prop} : Wx d 39 69 ls st σ Q ↔ Li (lget ls 6) (fun z => Wx d 39 71 ls (vi z :: st) σ Q) := u_iload d39_69
theorem d39_71 : decode (mB 39) 71 = .ok (.invokevirtual 151, 3) := by decide +kernel
theorem u39_71 {d : Nat} {ls : Lo} {st : List Va} {σ : Sg} {Q : Rs → Sg → Prop} {g j : Nat} {a1 : Va} : Wx (d + 1) 39 71 ls (a1 :: vr g j :: st) σ Q ↔ (isO g j 3 ∧ st.length ≤ 4 ∧ nlg [a1] = true) ∧ Wm d 37 [vr g j, a1] σ (Kc (d + 1) 39 74 ls st Q) := u_inv1 d39_71 rfl rfl rfl
theorem d39_74 : decode (mB 39) 74 = .ok (.ifCond .eq 19, 3) := by decide +kernel
theorem u39_74 {d : Nat} {ls : Lo} {st : List Va} {σ : Sg} {Q : Rs → Sg → Prop} {a : Int} (h : -2147483648 ≤ a ∧ a ≤ 2147483647) : Wx d 39 74 ls (vi a :: st) σ Q ↔ if a = 0 then Wx d 39 93 ls st σ Q else Wx d 39 77 ls st σ Q := u_ifeq d39_74 (by decide) h
theorem d39_77 : decode (mB 39) 77 = .ok (.iload 7, 2) := by decide +kernel
theorem u39_77 {d : Nat} {ls : Lo} {st : List Va} {σ : Sg} {Q : Rs → Sg → Prop} : Wx d 39 77 ls st σ Q ↔ Li (lget ls 7) (fun z => Wx d 39 79 ls (vi z :: st) σ Q) := u_iload d39_77
theorem d39_79 : decode (mB 39) 79 = .ok (.iload_n 3, 1) := by decide +kernel
theorem u39_79 {d : Nat} {ls : Lo} {st : List Va} {σ : Sg} {Q : Rs → Sg → Prop} : Wx d 39 79 ls st σ Q ↔ Li (lget ls 3) (fun z => Wx d 39 80 ls (vi z :: st) σ Q) := u_iload_n d39_79
theorem d39_80 : decode (mB 39) 80 = .ok (.iand, 1) := by decide +kernel
theorem u39_80 {d : Nat} {ls : Lo} {st : List Va} {σ : Sg} {Q : Rs → Sg → Prop} {a b : Int} : Wx d 39 80 ls (vi b :: vi a :: st) σ Q ↔ Wx d 39 81 ls (vi ((i3 a &&& i3 b).toInt) :: st) σ Q := u_iand d39_80
theorem d39_81 : decode (mB 39) 81 = .ok (.iload_n 3, 1) := by decide +kernel
theorem u39_81 {d : Nat} {ls : Lo} {st : List Va} {σ : Sg} {Q : Rs → Sg → Prop} : Wx d 39 81 ls st σ Q ↔ Li (lget ls 3) (fun z => Wx d 39 82 ls (vi z :: st) σ Q) := u_iload_n d39_81
theorem d39_82 : decode (mB 39) 82 = .ok (.if_icmp .ne 11, 3) := by decide +kernel
theorem u39_82 {d : Nat} {ls : Lo} {st : List Va} {σ : Sg} {Q : Rs → Sg → Prop} {a b : Int} (h : -2147483648 ≤ a ∧ a ≤ 2147483647) (h2 : -2147483648 ≤ b ∧ b ≤ 2147483647) : Wx d 39 82 ls (vi b :: vi a :: st) σ Q ↔ if ¬ a = b then Wx d 39 93 ls st σ Q else Wx d 39 85 ls st σ Q := u_icne d39_82 (by decide) h h2
theorem d39_85 : decode (mB 39) 85 = .ok (.aload_n 0, 1) := by decide +kernel
theorem u39_85 {d : Nat} {ls : Lo} {st : List Va} {σ : Sg} {Q : Rs → Sg → Prop} : Wx d 39 85 ls st σ Q ↔ Lr (lget ls 0) (fun z => Wx d 39 86 ls (.inr (.inl z) :: st) σ Q) := u_aload_n d39_85
theorem d39_86 : decode (mB 39) 86 = .ok (.iload_n 1, 1) := by decide +kernel
theorem u39_86 {d : Nat} {ls : Lo} {st : List Va} {σ : Sg} {Q : Rs → Sg → Prop} : Wx d 39 86 ls st σ Q ↔ Li (lget ls 1) (fun z => Wx d 39 87 ls (vi z :: st) σ Q) := u_iload_n d39_86
theorem d39_87 : decode (mB 39) 87 = .ok (.iload_n 2, 1) := by decide +kernel
theorem u39_87 {d : Nat} {ls : Lo} {st : List Va} {σ : Sg} {Q : Rs → Sg → Prop} : Wx d 39 87 ls st σ Q ↔ Li (lget ls 2) (fun z => Wx d 39 88 ls (vi z :: st) σ Q) := u_iload_n d39_87
theorem d39_88 : decode (mB 39) 88 = .ok (.iload 6, 2) := by decide +kernel
theorem u39_88 {d : Nat} {ls : Lo} {st : List Va} {σ : Sg} {Q : Rs → Sg → Prop} : Wx d 39 88 ls st σ Q ↔ Li (lget ls 6) (fun z => Wx d 39 90 ls (vi z :: st) σ Q) := u_iload d39_88
theorem d39_90 : decode (mB 39) 90 = .ok (.invokevirtual 161, 3) := by decide +kernel
theorem u39_90 {d : Nat} {ls : Lo} {st : List Va} {σ : Sg} {Q : Rs → Sg → Prop} {g j : Nat} {a1 a2 a3 : Va} : Wx (d + 1) 39 90 ls (a3 :: a2 :: a1 :: vr g j :: st) σ Q ↔ (isO g j 3 ∧ st.length ≤ 4 ∧ nlg [a3, a2, a1] = true) ∧ Wm d 40 [vr g j, a1, a2, a3] σ (Kc (d + 1) 39 93 ls st Q) := u_inv3 d39_90 rfl rfl rfl
theorem d39_93 : decode (mB 39) 93 = .ok (.iinc 6 1, 3) := by decide +kernel
theorem u39_93 {d : Nat} {ls : Lo} {st : List Va} {σ : Sg} {Q : Rs → Sg → Prop} : Wx d 39 93 ls st σ Q ↔ Li (lget ls 6) (fun z => Wx d 39 96 (lset ls 6 (vi (z + 1))) st σ Q) := u_iinc d39_93 (by decide)
theorem d39_96 : decode (mB 39) 96 = .ok (.goto (-60), 3) := by decide +kernel
theorem u39_96 {d : Nat} {ls : Lo} {st : List Va} {σ : Sg} {Q : Rs → Sg → Prop} : Wx d 39 96 ls st σ Q ↔ Wx d 39 36 ls st σ Q := u_goto d39_96 (by decide)
theorem d39_99 : decode (mB 39) 99 = .ok (.return_, 1) := by decide +kernel
theorem u39_99 {d : Nat} {ls : Lo} {σ : Sg} {Q : Rs → Sg → Prop} : Wx d 39 99 ls [] σ Q ↔ Q (.inl none) σ := u_vret d39_99 rfl
/-! 40: FiguredBass$Chord.addPlacement(III)V -/
theorem d40_0 : decode (mB 40) 0 = .ok (.aload_n 0, 1) := by decide +kernel
theorem u40_0 {d : Nat} {ls : Lo} {st : List Va} {σ : Sg} {Q : Rs → Sg → Prop} : Wx d 40 0 ls st σ Q ↔ Lr (lget ls 0) (fun z => Wx d 40 1 ls (.inr (.inl z) :: st) σ Q) := u_aload_n d40_0
theorem d40_1 : decode (mB 40) 1 = .ok (.getfield 133, 3) := by decide +kernel
theorem u40_1 {d : Nat} {ls : Lo} {st : List Va} {σ : Sg} {Q : Rs → Sg → Prop} {g j : Nat} : Wx d 40 1 ls (vr g j :: st) σ Q ↔ isO g j 3 ∧ Wx d 40 4 ls (fvv σ g j 16 :: st) σ Q := u_get (w := (3, 16)) d40_1 rfl
theorem d40_4 : decode (mB 40) 4 = .ok (.bipush 64, 2) := by decide +kernel
theorem u40_4 {d : Nat} {ls : Lo} {st : List Va} {σ : Sg} {Q : Rs → Sg → Prop} : Wx d 40 4 ls st σ Q ↔ Wx d 40 6 ls (vi 64 :: st) σ Q := u_bipush d40_4 (by decide)
theorem d40_6 : decode (mB 40) 6 = .ok (.if_icmp .ge 49, 3) := by decide +kernel
theorem u40_6 {d : Nat} {ls : Lo} {st : List Va} {σ : Sg} {Q : Rs → Sg → Prop} {a b : Int} (h : -2147483648 ≤ a ∧ a ≤ 2147483647) (h2 : -2147483648 ≤ b ∧ b ≤ 2147483647) : Wx d 40 6 ls (vi b :: vi a :: st) σ Q ↔ if b ≤ a then Wx d 40 55 ls st σ Q else Wx d 40 9 ls st σ Q := u_icge d40_6 (by decide) h h2
theorem d40_9 : decode (mB 40) 9 = .ok (.iconst 3, 1) := by decide +kernel
theorem u40_9 {d : Nat} {ls : Lo} {st : List Va} {σ : Sg} {Q : Rs → Sg → Prop} : Wx d 40 9 ls st σ Q ↔ Wx d 40 10 ls (vi 3 :: st) σ Q := u_iconst d40_9
theorem d40_10 : decode (mB 40) 10 = .ok (.aload_n 0, 1) := by decide +kernel
theorem u40_10 {d : Nat} {ls : Lo} {st : List Va} {σ : Sg} {Q : Rs → Sg → Prop} : Wx d 40 10 ls st σ Q ↔ Lr (lget ls 0) (fun z => Wx d 40 11 ls (.inr (.inl z) :: st) σ Q) := u_aload_n d40_10
theorem d40_11 : decode (mB 40) 11 = .ok (.getfield 133, 3) := by decide +kernel
theorem u40_11 {d : Nat} {ls : Lo} {st : List Va} {σ : Sg} {Q : Rs → Sg → Prop} {g j : Nat} : Wx d 40 11 ls (vr g j :: st) σ Q ↔ isO g j 3 ∧ Wx d 40 14 ls (fvv σ g j 16 :: st) σ Q := u_get (w := (3, 16)) d40_11 rfl
theorem d40_14 : decode (mB 40) 14 = .ok (.imul, 1) := by decide +kernel
theorem u40_14 {d : Nat} {ls : Lo} {st : List Va} {σ : Sg} {Q : Rs → Sg → Prop} {a b : Int} : Wx d 40 14 ls (vi b :: vi a :: st) σ Q ↔ Wx d 40 15 ls (vi (a * b) :: st) σ Q := u_imul d40_14
theorem d40_15 : decode (mB 40) 15 = .ok (.istore 4, 2) := by decide +kernel
theorem u40_15 {d : Nat} {ls : Lo} {st : List Va} {σ : Sg} {Q : Rs → Sg → Prop} {z : Int} : Wx d 40 15 ls (vi z :: st) σ Q ↔ Wx d 40 17 (lset ls 4 (vi z)) st σ Q := u_istore d40_15 (by decide)
theorem d40_17 : decode (mB 40) 17 = .ok (.aload_n 0, 1) := by decide +kernel
theorem u40_17 {d : Nat} {ls : Lo} {st : List Va} {σ : Sg} {Q : Rs → Sg → Prop} : Wx d 40 17 ls st σ Q ↔ Lr (lget ls 0) (fun z => Wx d 40 18 ls (.inr (.inl z) :: st) σ Q) := u_aload_n d40_17
theorem d40_18 : decode (mB 40) 18 = .ok (.getfield 31, 3) := by decide +kernel
theorem u40_18 {d : Nat} {ls : Lo} {st : List Va} {σ : Sg} {Q : Rs → Sg → Prop} {g j : Nat} : Wx d 40 18 ls (vr g j :: st) σ Q ↔ isO g j 3 ∧ Wx d 40 21 ls (fvv σ g j 5 :: st) σ Q := u_get (w := (3, 5)) d40_18 rfl
theorem d40_21 : decode (mB 40) 21 = .ok (.iload 4, 2) := by decide +kernel
theorem u40_21 {d : Nat} {ls : Lo} {st : List Va} {σ : Sg} {Q : Rs → Sg → Prop} : Wx d 40 21 ls st σ Q ↔ Li (lget ls 4) (fun z => Wx d 40 23 ls (vi z :: st) σ Q) := u_iload d40_21
theorem d40_23 : decode (mB 40) 23 = .ok (.iload_n 1, 1) := by decide +kernel
theorem u40_23 {d : Nat} {ls : Lo} {st : List Va} {σ : Sg} {Q : Rs → Sg → Prop} : Wx d 40 23 ls st σ Q ↔ Li (lget ls 1) (fun z => Wx d 40 24 ls (vi z :: st) σ Q) := u_iload_n d40_23
theorem d40_24 : decode (mB 40) 24 = .ok (.iastore, 1) := by decide +kernel
theorem u40_24 {d : Nat} {ls : Lo} {st : List Va} {σ : Sg} {Q : Rs → Sg → Prop} {x z : Int} {g j : Nat} : Wx d 40 24 ls (vi x :: vi z :: vr g j :: st) σ Q ↔ isA g j 0 z ∧ Wx d 40 25 ls st (up σ g j z.toNat x) Q := u_iast d40_24
theorem d40_25 : decode (mB 40) 25 = .ok (.aload_n 0, 1) := by decide +kernel
theorem u40_25 {d : Nat} {ls : Lo} {st : List Va} {σ : Sg} {Q : Rs → Sg → Prop} : Wx d 40 25 ls st σ Q ↔ Lr (lget ls 0) (fun z => Wx d 40 26 ls (.inr (.inl z) :: st) σ Q) := u_aload_n d40_25
theorem d40_26 : decode (mB 40) 26 = .ok (.getfield 31, 3) := by decide +kernel
theorem u40_26 {d : Nat} {ls : Lo} {st : List Va} {σ : Sg} {Q : Rs → Sg → Prop} {g j : Nat} : Wx d 40 26 ls (vr g j :: st) σ Q ↔ isO g j 3 ∧ Wx d 40 29 ls (fvv σ g j 5 :: st) σ Q := u_get (w := (3, 5)) d40_26 rfl
theorem d40_29 : decode (mB 40) 29 = .ok (.iload 4, 2) := by decide +kernel
theorem u40_29 {d : Nat} {ls : Lo} {st : List Va} {σ : Sg} {Q : Rs → Sg → Prop} : Wx d 40 29 ls st σ Q ↔ Li (lget ls 4) (fun z => Wx d 40 31 ls (vi z :: st) σ Q) := u_iload d40_29
theorem d40_31 : decode (mB 40) 31 = .ok (.iconst 1, 1) := by decide +kernel
theorem u40_31 {d : Nat} {ls : Lo} {st : List Va} {σ : Sg} {Q : Rs → Sg → Prop} : Wx d 40 31 ls st σ Q ↔ Wx d 40 32 ls (vi 1 :: st) σ Q := u_iconst d40_31
theorem d40_32 : decode (mB 40) 32 = .ok (.iadd, 1) := by decide +kernel
theorem u40_32 {d : Nat} {ls : Lo} {st : List Va} {σ : Sg} {Q : Rs → Sg → Prop} {a b : Int} : Wx d 40 32 ls (vi b :: vi a :: st) σ Q ↔ Wx d 40 33 ls (vi (a + b) :: st) σ Q := u_iadd d40_32
theorem d40_33 : decode (mB 40) 33 = .ok (.iload_n 2, 1) := by decide +kernel
theorem u40_33 {d : Nat} {ls : Lo} {st : List Va} {σ : Sg} {Q : Rs → Sg → Prop} : Wx d 40 33 ls st σ Q ↔ Li (lget ls 2) (fun z => Wx d 40 34 ls (vi z :: st) σ Q) := u_iload_n d40_33
theorem d40_34 : decode (mB 40) 34 = .ok (.iastore, 1) := by decide +kernel
theorem u40_34 {d : Nat} {ls : Lo} {st : List Va} {σ : Sg} {Q : Rs → Sg → Prop} {x z : Int} {g j : Nat} : Wx d 40 34 ls (vi x :: vi z :: vr g j :: st) σ Q ↔ isA g j 0 z ∧ Wx d 40 35 ls st (up σ g j z.toNat x) Q := u_iast d40_34
theorem d40_35 : decode (mB 40) 35 = .ok (.aload_n 0, 1) := by decide +kernel
theorem u40_35 {d : Nat} {ls : Lo} {st : List Va} {σ : Sg} {Q : Rs → Sg → Prop} : Wx d 40 35 ls st σ Q ↔ Lr (lget ls 0) (fun z => Wx d 40 36 ls (.inr (.inl z) :: st) σ Q) := u_aload_n d40_35
theorem d40_36 : decode (mB 40) 36 = .ok (.getfield 31, 3) := by decide +kernel
theorem u40_36 {d : Nat} {ls : Lo} {st : List Va} {σ : Sg} {Q : Rs → Sg → Prop} {g j : Nat} : Wx d 40 36 ls (vr g j :: st) σ Q ↔ isO g j 3 ∧ Wx d 40 39 ls (fvv σ g j 5 :: st) σ Q := u_get (w := (3, 5)) d40_36 rfl
theorem d40_39 : decode (mB 40) 39 = .ok (.iload 4, 2) := by decide +kernel
theorem u40_39 {d : Nat} {ls : Lo} {st : List Va} {σ : Sg} {Q : Rs → Sg → Prop} : Wx d 40 39 ls st σ Q ↔ Li (lget ls 4) (fun z => Wx d 40 41 ls (vi z :: st) σ Q) := u_iload d40_39
theorem d40_41 : decode (mB 40) 41 = .ok (.iconst 2, 1) := by decide +kernel
theorem u40_41 {d : Nat} {ls : Lo} {st : List Va} {σ : Sg} {Q : Rs → Sg → Prop} : Wx d 40 41 ls st σ Q ↔ Wx d 40 42 ls (vi 2 :: st) σ Q := u_iconst d40_41
theorem d40_42 : decode (mB 40) 42 = .ok (.iadd, 1) := by decide +kernel
theorem u40_42 {d : Nat} {ls : Lo} {st : List Va} {σ : Sg} {Q : Rs → Sg → Prop} {a b : Int} : Wx d 40 42 ls (vi b :: vi a :: st) σ Q ↔ Wx d 40 43 ls (vi (a + b) :: st) σ Q := u_iadd d40_42
theorem d40_43 : decode (mB 40) 43 = .ok (.iload_n 3, 1) := by decide +kernel
theorem u40_43 {d : Nat} {ls : Lo} {st : List Va} {σ : Sg} {Q : Rs → Sg → Prop} : Wx d 40 43 ls st σ Q ↔ Li (lget ls 3) (fun z => Wx d 40 44 ls (vi z :: st) σ Q) := u_iload_n d40_43
theorem d40_44 : decode (mB 40) 44 = .ok (.iastore, 1) := by decide +kernel
theorem u40_44 {d : Nat} {ls : Lo} {st : List Va} {σ : Sg} {Q : Rs → Sg → Prop} {x z : Int} {g j : Nat} : Wx d 40 44 ls (vi x :: vi z :: vr g j :: st) σ Q ↔ isA g j 0 z ∧ Wx d 40 45 ls st (up σ g j z.toNat x) Q := u_iast d40_44
theorem d40_45 : decode (mB 40) 45 = .ok (.aload_n 0, 1) := by decide +kernel
theorem u40_45 {d : Nat} {ls : Lo} {st : List Va} {σ : Sg} {Q : Rs → Sg → Prop} : Wx d 40 45 ls st σ Q ↔ Lr (lget ls 0) (fun z => Wx d 40 46 ls (.inr (.inl z) :: st) σ Q) := u_aload_n d40_45
theorem d40_46 : decode (mB 40) 46 = .ok (.dup, 1) := by decide +kernel
theorem u40_46i {d : Nat} {ls : Lo} {st : List Va} {σ : Sg} {Q : Rs → Sg → Prop} {a : Int} : Wx d 40 46 ls (vi a :: st) σ Q ↔ Wx d 40 47 ls (vi a :: vi a :: st) σ Q := u_dupi d40_46
theorem u40_46r {d : Nat} {ls : Lo} {st : List Va} {σ : Sg} {Q : Rs → Sg → Prop} {g j : Nat} : Wx d 40 46 ls (vr g j :: st) σ Q ↔ Wx d 40 47 ls (vr g j :: vr g j :: st) σ Q := u_dupr d40_46
theorem d40_47 : decode (mB 40) 47 = .ok (.getfield 133, 3) := by decide +kernel
theorem u40_47 {d : Nat} {ls : Lo} {st : List Va} {σ : Sg} {Q : Rs → Sg → Prop} {g j : Nat} : Wx d 40 47 ls (vr g j :: st) σ Q ↔ isO g j 3 ∧ Wx d 40 50 ls (fvv σ g j 16 :: st) σ Q := u_get (w := (3, 16)) d40_47 rfl
theorem d40_50 : decode (mB 40) 50 = .ok (.iconst 1, 1) := by decide +kernel
theorem u40_50 {d : Nat} {ls : Lo} {st : List Va} {σ : Sg} {Q : Rs → Sg → Prop} : Wx d 40 50 ls st σ Q ↔ Wx d 40 51 ls (vi 1 :: st) σ Q := u_iconst d40_50
theorem d40_51 : decode (mB 40) 51 = .ok (.iadd, 1) := by decide +kernel
theorem u40_51 {d : Nat} {ls : Lo} {st : List Va} {σ : Sg} {Q : Rs → Sg → Prop} {a b : Int} : Wx d 40 51 ls (vi b :: vi a :: st) σ Q ↔ Wx d 40 52 ls (vi (a + b) :: st) σ Q := u_iadd d40_51
theorem d40_52 : decode (mB 40) 52 = .ok (.putfield 133, 3) := by decide +kernel
theorem u40_52 {d : Nat} {ls : Lo} {st : List Va} {σ : Sg} {Q : Rs → Sg → Prop} {z : Int} {g j : Nat} : Wx d 40 52 ls (vi z :: vr g j :: st) σ Q ↔ (isO g j 3 ∧ rf g j 16 = none) ∧ Wx d 40 55 ls st (up σ g j 16 z) Q := u_put (w := (3, 16)) d40_52 rfl rfl rfl
theorem d40_55 : decode (mB 40) 55 = .ok (.return_, 1) := by decide +kernel
theorem u40_55 {d : Nat} {ls : Lo} {σ : Sg} {Q : Rs → Sg → Prop} : Wx d 40 55 ls [] σ Q ↔ Q (.inl none) σ := u_vret d40_55 rfl
/-! 41: FiguredBass$Chord.neededClasses()I -/
theorem d41_0 : decode (mB 41) 0 = .ok (.iconst 0, 1) := by decide +kernel
theorem u41_0 {d : Nat} {ls : Lo} {st : List Va} {σ : Sg} {Q : Rs → Sg → Prop} : Wx d 41 0 ls st σ Q ↔ Wx d 41 1 ls (vi 0 :: st) σ Q := u_iconst d41_0
theorem d41_1 : decode (mB 41) 1 = .ok (.istore_n 1, 1) := by decide +kernel
theorem u41_1 {d : Nat} {ls : Lo} {st : List Va} {σ : Sg} {Q : Rs → Sg → Prop} {z : Int} : Wx d 41 1 ls (vi z :: st) σ Q ↔ Wx d 41 2 (lset ls 1 (vi z)) st σ Q := u_istore_n d41_1 (by decide)
theorem d41_2 : decode (mB 41) 2 = .ok (.iconst 0, 1) := by decide +kernel
theorem u41_2 {d : Nat} {ls : Lo} {st : List Va} {σ : Sg} {Q : Rs → Sg → Prop} : Wx d 41 2 ls st σ Q ↔ Wx d 41 3 ls (vi 0 :: st) σ Q := u_iconst d41_2
theorem d41_3 : decode (mB 41) 3 = .ok (.istore_n 2, 1) := by decide +kernel
theorem u41_3 {d : Nat} {ls : Lo} {st : List Va} {σ : Sg} {Q : Rs → Sg → Prop} {z : Int} : Wx d 41 3 ls (vi z :: st) σ Q ↔ Wx d 41 4 (lset ls 2 (vi z)) st σ Q := u_istore_n d41_3 (by decide)
theorem d41_4 : decode (mB 41) 4 = .ok (.iload_n 2, 1) := by decide +kernel
theorem u41_4 {d : Nat} {ls : Lo} {st : List Va} {σ : Sg} {Q : Rs → Sg → Prop} : Wx d 41 4 ls st σ Q ↔ Li (lget ls 2) (fun z => Wx d 41 5 ls (vi z :: st) σ Q) := u_iload_n d41_4
theorem d41_5 : decode (mB 41) 5 = .ok (.aload_n 0, 1) := by decide +kernel
theorem u41_5 {d : Nat} {ls : Lo} {st : List Va} {σ : Sg} {Q : Rs → Sg → Prop} : Wx d 41 5 ls st σ Q ↔ Lr (lget ls 0) (fun z => Wx d 41 6 ls (.inr (.inl z) :: st) σ Q) := u_aload_n d41_5
theorem d41_6 : decode (mB 41) 6 = .ok (.getfield 87, 3) := by decide +kernel
theorem u41_6 {d : Nat} {ls : Lo} {st : List Va} {σ : Sg} {Q : Rs → Sg → Prop} {g j : Nat} : Wx d 41 6 ls (vr g j :: st) σ Q ↔ isO g j 3 ∧ Wx d 41 9 ls (fvv σ g j 10 :: st) σ Q := u_get (w := (3, 10)) d41_6 rfl
theorem d41_9 : decode (mB 41) 9 = .ok (.if_icmp .ge 29, 3) := by decide +kernel
theorem u41_9 {d : Nat} {ls : Lo} {st : List Va} {σ : Sg} {Q : Rs → Sg → Prop} {a b : Int} (h : -2147483648 ≤ a ∧ a ≤ 2147483647) (h2 : -2147483648 ≤ b ∧ b ≤ 2147483647) : Wx d 41 9 ls (vi b :: vi a :: st) σ Q ↔ if b ≤ a then Wx d 41 38 ls st σ Q else Wx d 41 12 ls st σ Q := u_icge d41_9 (by decide) h h2
theorem d41_12 : decode (mB 41) 12 = .ok (.iload_n 2, 1) := by decide +kernel
theorem u41_12 {d : Nat} {ls : Lo} {st : List Va} {σ : Sg} {Q : Rs → Sg → Prop} : Wx d 41 12 ls st σ Q ↔ Li (lget ls 2) (fun z => Wx d 41 13 ls (vi z :: st) σ Q) := u_iload_n d41_12
theorem d41_13 : decode (mB 41) 13 = .ok (.aload_n 0, 1) := by decide +kernel
theorem u41_13 {d : Nat} {ls : Lo} {st : List Va} {σ : Sg} {Q : Rs → Sg → Prop} : Wx d 41 13 ls st σ Q ↔ Lr (lget ls 0) (fun z => Wx d 41 14 ls (.inr (.inl z) :: st) σ Q) := u_aload_n d41_13
theorem d41_14 : decode (mB 41) 14 = .ok (.getfield 41, 3) := by decide +kernel
theorem u41_14 {d : Nat} {ls : Lo} {st : List Va} {σ : Sg} {Q : Rs → Sg → Prop} {g j : Nat} : Wx d 41 14 ls (vr g j :: st) σ Q ↔ isO g j 3 ∧ Wx d 41 17 ls (fvv σ g j 11 :: st) σ Q := u_get (w := (3, 11)) d41_14 rfl
theorem d41_17 : decode (mB 41) 17 = .ok (.if_icmp .eq 15, 3) := by decide +kernel
theorem u41_17 {d : Nat} {ls : Lo} {st : List Va} {σ : Sg} {Q : Rs → Sg → Prop} {a b : Int} (h : -2147483648 ≤ a ∧ a ≤ 2147483647) (h2 : -2147483648 ≤ b ∧ b ≤ 2147483647) : Wx d 41 17 ls (vi b :: vi a :: st) σ Q ↔ if a = b then Wx d 41 32 ls st σ Q else Wx d 41 20 ls st σ Q := u_iceq d41_17 (by decide) h h2
theorem d41_20 : decode (mB 41) 20 = .ok (.iload_n 1, 1) := by decide +kernel
theorem u41_20 {d : Nat} {ls : Lo} {st : List Va} {σ : Sg} {Q : Rs → Sg → Prop} : Wx d 41 20 ls st σ Q ↔ Li (lget ls 1) (fun z => Wx d 41 21 ls (vi z :: st) σ Q) := u_iload_n d41_20
theorem d41_21 : decode (mB 41) 21 = .ok (.aload_n 0, 1) := by decide +kernel
theorem u41_21 {d : Nat} {ls : Lo} {st : List Va} {σ : Sg} {Q : Rs → Sg → Prop} : Wx d 41 21 ls st σ Q ↔ Lr (lget ls 0) (fun z => Wx d 41 22 ls (.inr (.inl z) :: st) σ Q) := u_aload_n d41_21
theorem d41_22 : decode (mB 41) 22 = .ok (.getfield 25, 3) := by decide +kernel
theorem u41_22 {d : Nat} {ls : Lo} {st : List Va} {σ : Sg} {Q : Rs → Sg → Prop} {g j : Nat} : Wx d 41 22 ls (vr g j :: st) σ Q ↔ isO g j 3 ∧ Wx d 41 25 ls (fvv σ g j 3 :: st) σ Q := u_get (w := (3, 3)) d41_22 rfl
theorem d41_25 : decode (mB 41) 25 = .ok (.iload_n 2, 1) := by decide +kernel
theorem u41_25 {d : Nat} {ls : Lo} {st : List Va} {σ : Sg} {Q : Rs → Sg → Prop} : Wx d 41 25 ls st σ Q ↔ Li (lget ls 2) (fun z => Wx d 41 26 ls (vi z :: st) σ Q) := u_iload_n d41_25
theorem d41_26 : decode (mB 41) 26 = .ok (.iaload, 1) := by decide +kernel
theorem u41_26 {d : Nat} {ls : Lo} {st : List Va} {σ : Sg} {Q : Rs → Sg → Prop} {z : Int} {g j : Nat} : Wx d 41 26 ls (vi z :: vr g j :: st) σ Q ↔ On (ial σ g j z) (fun x => Wx d 41 27 ls (vi x :: st) σ Q) := u_iald d41_26
theorem d41_27 : decode (mB 41) 27 = .ok (.invokestatic 158, 3) := by decide +kernel
theorem u41_27 {d : Nat} {ls : Lo} {st : List Va} {σ : Sg} {Q : Rs → Sg → Prop} {a1 : Va} : Wx (d + 1) 41 27 ls (a1 :: st) σ Q ↔ (st.length ≤ 4 ∧ nlg [a1] = true) ∧ Wm d 42 [a1] σ (Kc (d + 1) 41 30 ls st Q) := u_sta1 d41_27 rfl rfl rfl (by decide) (by decide) (by decide)
theorem d41_30 : decode (mB 41) 30 = .ok (.ior, 1) := by decide +kernel
theorem u41_30 {d : Nat} {ls : Lo} {st : List Va} {σ : Sg} {Q : Rs → Sg → Prop} {a b : Int} : Wx d 41 30 ls (vi b :: vi a :: st) σ Q ↔ Wx d 41 31 ls (vi ((i3 a ||| i3 b).toInt) :: st) σ Q := u_ior d41_30
theorem d41_31 : decode (mB 41) 31 = .ok (.istore_n 1, 1) := by decide +kernel
theorem u41_31 {d : Nat} {ls : Lo} {st : List Va} {σ : Sg} {Q : Rs → Sg → Prop} {z : Int} : Wx d 41 31 ls (vi z :: st) σ Q ↔ Wx d 41 32 (lset ls 1 (vi z)) st σ Q := u_istore_n d41_31 (by decide)
theorem d41_32 : decode (mB 41) 32 = .ok (.iinc 2 1, 3) := by decide +kernel
theorem u41_32 {d : Nat} {ls : Lo} {st : List Va} {σ : Sg} {Q : Rs → Sg → Prop} : Wx d 41 32 ls st σ Q ↔ Li (lget ls 2) (fun z => Wx d 41 35 (lset ls 2 (vi (z + 1))) st σ Q) := u_iinc d41_32 (by decide)
theorem d41_35 : decode (mB 41) 35 = .ok (.goto (-31), 3) := by decide +kernel
theorem u41_35 {d : Nat} {ls : Lo} {st : List Va} {σ : Sg} {Q : Rs → Sg → Prop} : Wx d 41 35 ls st σ Q ↔ Wx d 41 4 ls st σ Q := u_goto d41_35 (by decide)
theorem d41_38 : decode (mB 41) 38 = .ok (.iload_n 1, 1) := by decide +kernel
theorem u41_38 {d : Nat} {ls : Lo} {st : List Va} {σ : Sg} {Q : Rs → Sg → Prop} : Wx d 41 38 ls st σ Q ↔ Li (lget ls 1) (fun z => Wx d 41 39 ls (vi z :: st) σ Q) := u_iload_n d41_38
theorem d41_39 : decode (mB 41) 39 = .ok (.ireturn, 1) := by decide +kernel
theorem u41_39 {d : Nat} {ls : Lo} {σ : Sg} {Q : Rs → Sg → Prop} {z : Int} : Wx d 41 39 ls [vi z] σ Q ↔ Q (.inl (some (vi z))) σ := u_iret d41_39 rfl
/-! 42: FiguredBass$Chord.bit(I)I -/
theorem d42_0 : decode (mB 42) 0 = .ok (.iconst 1, 1) := by decide +kernel
theorem u42_0 {d : Nat} {ls : Lo} {st : List Va} {σ : Sg} {Q : Rs → Sg → Prop} : Wx d 42 0 ls st σ Q ↔ Wx d 42 1 ls (vi 1 :: st) σ Q := u_iconst d42_0
theorem d42_1 : decode (mB 42) 1 = .ok (.iload_n 0, 1) := by decide +kernel
theorem u42_1 {d : Nat} {ls : Lo} {st : List Va} {σ : Sg} {Q : Rs → Sg → Prop} : Wx d 42 1 ls st σ Q ↔ Li (lget ls 0) (fun z => Wx d 42 2 ls (vi z :: st) σ Q) := u_iload_n d42_1
theorem d42_2 : decode (mB 42) 2 = .ok (.bipush 12, 2) := by decide +kernel
theorem u42_2 {d : Nat} {ls : Lo} {st : List Va} {σ : Sg} {Q : Rs → Sg → Prop} : Wx d 42 2 ls st σ Q ↔ Wx d 42 4 ls (vi 12 :: st) σ Q := u_bipush d42_2 (by decide)
theorem d42_4 : decode (mB 42) 4 = .ok (.invokestatic 117, 3) := by decide +kernel
theorem u42_4 {d : Nat} {ls : Lo} {st : List Va} {σ : Sg} {Q : Rs → Sg → Prop} {a1 a2 : Va} : Wx (d + 1) 42 4 ls (a2 :: a1 :: st) σ Q ↔ (st.length ≤ 4 ∧ nlg [a2, a1] = true) ∧ Wm d 128 [a1, a2] σ (Kc (d + 1) 42 7 ls st Q) := u_sta2 d42_4 rfl rfl rfl (by decide) (by decide) (by decide)
theorem d42_7 : decode (mB 42) 7 = .ok (.ishl, 1) := by decide +kernel
theorem u42_7 {d : Nat} {ls : Lo} {st : List Va} {σ : Sg} {Q : Rs → Sg → Prop} {a b : Int} : Wx d 42 7 ls (vi b :: vi a :: st) σ Q ↔ Wx d 42 8 ls (vi ((i3 a <<< (i3 b &&& 31)).toInt) :: st) σ Q := u_ishl d42_7
theorem d42_8 : decode (mB 42) 8 = .ok (.ireturn, 1) := by decide +kernel
theorem u42_8 {d : Nat} {ls : Lo} {σ : Sg} {Q : Rs → Sg → Prop} {z : Int} : Wx d 42 8 ls [vi z] σ Q ↔ Q (.inl (some (vi z))) σ := u_iret d42_8 rfl
/-! 43: FiguredBass$Chord.soundOf(II)I -/
theorem d43_0 : decode (mB 43) 0 = .ok (.iload_n 2, 1) := by decide +kernel
theorem u43_0 {d : Nat} {ls : Lo} {st : List Va} {σ : Sg} {Q : Rs → Sg → Prop} : Wx d 43 0 ls st σ Q ↔ Li (lget ls 2) (fun z => Wx d 43 1 ls (vi z :: st) σ Q) := u_iload_n d43_0
theorem d43_1 : decode (mB 43) 1 = .ok (.iconst 3, 1) := by decide +kernel
theorem u43_1 {d : Nat} {ls : Lo} {st : List Va} {σ : Sg} {Q : Rs → Sg → Prop} : Wx d 43 1 ls st σ Q ↔ Wx d 43 2 ls (vi 3 :: st) σ Q := u_iconst d43_1
theorem d43_2 : decode (mB 43) 2 = .ok (.if_icmp .ne 8, 3) := by decide +kernel
theorem u43_2 {d : Nat} {ls : Lo} {st : List Va} {σ : Sg} {Q : Rs → Sg → Prop} {a b : Int} (h : -2147483648 ≤ a ∧ a ≤ 2147483647) (h2 : -2147483648 ≤ b ∧ b ≤ 2147483647) : Wx d 43 2 ls (vi b :: vi a :: st) σ Q ↔ if ¬ a = b then Wx d 43 10 ls st σ Q else Wx d 43 5 ls st σ Q := u_icne d43_2 (by decide) h h2
theorem d43_5 : decode (mB 43) 5 = .ok (.aload_n 0, 1) := by decide +kernel
theorem u43_5 {d : Nat} {ls : Lo} {st : List Va} {σ : Sg} {Q : Rs → Sg → Prop} : Wx d 43 5 ls st σ Q ↔ Lr (lget ls 0) (fun z => Wx d 43 6 ls (.inr (.inl z) :: st) σ Q) := u_aload_n d43_5
theorem d43_6 : decode (mB 43) 6 = .ok (.getfield 37, 3) := by decide +kernel
theorem u43_6 {d : Nat} {ls : Lo} {st : List Va} {σ : Sg} {Q : Rs → Sg → Prop} {g j : Nat} : Wx d 43 6 ls (vr g j :: st) σ Q ↔ isO g j 3 ∧ Wx d 43 9 ls (fvv σ g j 9 :: st) σ Q := u_get (w := (3, 9)) d43_6 rfl
theorem d43_9 : decode (mB 43) 9 = .ok (.ireturn, 1) := by decide +kernel
theorem u43_9 {d : Nat} {ls : Lo} {σ : Sg} {Q : Rs → Sg → Prop} {z : Int} : Wx d 43 9 ls [vi z] σ Q ↔ Q (.inl (some (vi z))) σ := u_iret d43_9 rfl
theorem d43_10 : decode (mB 43) 10 = .ok (.iload_n 1, 1) := by decide +kernel
theorem u43_10 {d : Nat} {ls : Lo} {st : List Va} {σ : Sg} {Q : Rs → Sg → Prop} : Wx d 43 10 ls st σ Q ↔ Li (lget ls 1) (fun z => Wx d 43 11 ls (vi z :: st) σ Q) := u_iload_n d43_10
theorem d43_11 : decode (mB 43) 11 = .ok (.iconst (-1), 1) := by decide +kernel
theorem u43_11 {d : Nat} {ls : Lo} {st : List Va} {σ : Sg} {Q : Rs → Sg → Prop} : Wx d 43 11 ls st σ Q ↔ Wx d 43 12 ls (vi (-1) :: st) σ Q := u_iconst d43_11
theorem d43_12 : decode (mB 43) 12 = .ok (.if_icmp .ne 10, 3) := by decide +kernel
theorem u43_12 {d : Nat} {ls : Lo} {st : List Va} {σ : Sg} {Q : Rs → Sg → Prop} {a b : Int} (h : -2147483648 ≤ a ∧ a ≤ 2147483647) (h2 : -2147483648 ≤ b ∧ b ≤ 2147483647) : Wx d 43 12 ls (vi b :: vi a :: st) σ Q ↔ if ¬ a = b then Wx d 43 22 ls st σ Q else Wx d 43 15 ls st σ Q := u_icne d43_12 (by decide) h h2
theorem d43_15 : decode (mB 43) 15 = .ok (.aload_n 0, 1) := by decide +kernel
theorem u43_15 {d : Nat} {ls : Lo} {st : List Va} {σ : Sg} {Q : Rs → Sg → Prop} : Wx d 43 15 ls st σ Q ↔ Lr (lget ls 0) (fun z => Wx d 43 16 ls (.inr (.inl z) :: st) σ Q) := u_aload_n d43_15
theorem d43_16 : decode (mB 43) 16 = .ok (.getfield 34, 3) := by decide +kernel
theorem u43_16 {d : Nat} {ls : Lo} {st : List Va} {σ : Sg} {Q : Rs → Sg → Prop} {g j : Nat} : Wx d 43 16 ls (vr g j :: st) σ Q ↔ isO g j 3 ∧ Wx d 43 19 ls (fvv σ g j 6 :: st) σ Q := u_get (w := (3, 6)) d43_16 rfl
theorem d43_19 : decode (mB 43) 19 = .ok (.iload_n 2, 1) := by decide +kernel
theorem u43_19 {d : Nat} {ls : Lo} {st : List Va} {σ : Sg} {Q : Rs → Sg → Prop} : Wx d 43 19 ls st σ Q ↔ Li (lget ls 2) (fun z => Wx d 43 20 ls (vi z :: st) σ Q) := u_iload_n d43_19
theorem d43_20 : decode (mB 43) 20 = .ok (.iaload, 1) := by decide +kernel
theorem u43_20 {d : Nat} {ls : Lo} {st : List Va} {σ : Sg} {Q : Rs → Sg → Prop} {z : Int} {g j : Nat} : Wx d 43 20 ls (vi z :: vr g j :: st) σ Q ↔ On (ial σ g j z) (fun x => Wx d 43 21 ls (vi x :: st) σ Q) := u_iald d43_20
theorem d43_21 : decode (mB 43) 21 = .ok (.ireturn, 1) := by decide +kernel
theorem u43_21 {d : Nat} {ls : Lo} {σ : Sg} {Q : Rs → Sg → Prop} {z : Int} : Wx d 43 21 ls [vi z] σ Q ↔ Q (.inl (some (vi z))) σ := u_iret d43_21 rfl
theorem d43_22 : decode (mB 43) 22 = .ok (.aload_n 0, 1) := by decide +kernel
theorem u43_22 {d : Nat} {ls : Lo} {st : List Va} {σ : Sg} {Q : Rs → Sg → Prop} : Wx d 43 22 ls st σ Q ↔ Lr (lget ls 0) (fun z => Wx d 43 23 ls (.inr (.inl z) :: st) σ Q) := u_aload_n d43_22
theorem d43_23 : decode (mB 43) 23 = .ok (.getfield 31, 3) := by decide +kernel
theorem u43_23 {d : Nat} {ls : Lo} {st : List Va} {σ : Sg} {Q : Rs → Sg → Prop} {g j : Nat} : Wx d 43 23 ls (vr g j :: st) σ Q ↔ isO g j 3 ∧ Wx d 43 26 ls (fvv σ g j 5 :: st) σ Q := u_get (w := (3, 5)) d43_23 rfl
theorem d43_26 : decode (mB 43) 26 = .ok (.iconst 3, 1) := by decide +kernel
theorem u43_26 {d : Nat} {ls : Lo} {st : List Va} {σ : Sg} {Q : Rs → Sg → Prop} : Wx d 43 26 ls st σ Q ↔ Wx d 43 27 ls (vi 3 :: st) σ Q := u_iconst d43_26
theorem d43_27 : decode (mB 43) 27 = .ok (.iload_n 1, 1) := by decide +kernel
theorem u43_27 {d : Nat} {ls : Lo} {st : List Va} {σ : Sg} {Q : Rs → Sg → Prop} : Wx d 43 27 ls st σ Q ↔ Li (lget ls 1) (fun z => Wx d 43 28 ls (vi z :: st) σ Q) := u_iload_n d43_27
theorem d43_28 : decode (mB 43) 28 = .ok (.imul, 1) := by decide +kernel
theorem u43_28 {d : Nat} {ls : Lo} {st : List Va} {σ : Sg} {Q : Rs → Sg → Prop} {a b : Int} : Wx d 43 28 ls (vi b :: vi a :: st) σ Q ↔ Wx d 43 29 ls (vi (a * b) :: st) σ Q := u_imul d43_28
theorem d43_29 : decode (mB 43) 29 = .ok (.iload_n 2, 1) := by decide +kernel
theorem u43_29 {d : Nat} {ls : Lo} {st : List Va} {σ : Sg} {Q : Rs → Sg → Prop} : Wx d 43 29 ls st σ Q ↔ Li (lget ls 2) (fun z => Wx d 43 30 ls (vi z :: st) σ Q) := u_iload_n d43_29
theorem d43_30 : decode (mB 43) 30 = .ok (.iadd, 1) := by decide +kernel
theorem u43_30 {d : Nat} {ls : Lo} {st : List Va} {σ : Sg} {Q : Rs → Sg → Prop} {a b : Int} : Wx d 43 30 ls (vi b :: vi a :: st) σ Q ↔ Wx d 43 31 ls (vi (a + b) :: st) σ Q := u_iadd d43_30
theorem d43_31 : decode (mB 43) 31 = .ok (.iaload, 1) := by decide +kernel
theorem u43_31 {d : Nat} {ls : Lo} {st : List Va} {σ : Sg} {Q : Rs → Sg → Prop} {z : Int} {g j : Nat} : Wx d 43 31 ls (vi z :: vr g j :: st) σ Q ↔ On (ial σ g j z) (fun x => Wx d 43 32 ls (vi x :: st) σ Q) := u_iald d43_31
theorem d43_32 : decode (mB 43) 32 = .ok (.ireturn, 1) := by decide +kernel
theorem u43_32 {d : Nat} {ls : Lo} {σ : Sg} {Q : Rs → Sg → Prop} {z : Int} : Wx d 43 32 ls [vi z] σ Q ↔ Q (.inl (some (vi z))) σ := u_iret d43_32 rfl
/-! 44: FiguredBass$Chord.pupilGap(I)I -/
theorem d44_0 : decode (mB 44) 0 = .ok (.aload_n 0, 1) := by decide +kernel
theorem u44_0 {d : Nat} {ls : Lo} {st : List Va} {σ : Sg} {Q : Rs → Sg → Prop} : Wx d 44 0 ls st σ Q ↔ Lr (lget ls 0) (fun z => Wx d 44 1 ls (.inr (.inl z) :: st) σ Q) := u_aload_n d44_0
theorem d44_1 : decode (mB 44) 1 = .ok (.iconst (-1), 1) := by decide +kernel
theorem u44_1 {d : Nat} {ls : Lo} {st : List Va} {σ : Sg} {Q : Rs → Sg → Prop} : Wx d 44 1 ls st σ Q ↔ Wx d 44 2 ls (vi (-1) :: st) σ Q := u_iconst d44_1
theorem d44_2 : decode (mB 44) 2 = .ok (.iload_n 1, 1) := by decide +kernel
theorem u44_2 {d : Nat} {ls : Lo} {st : List Va} {σ : Sg} {Q : Rs → Sg → Prop} : Wx d 44 2 ls st σ Q ↔ Li (lget ls 1) (fun z => Wx d 44 3 ls (vi z :: st) σ Q) := u_iload_n d44_2
theorem d44_3 : decode (mB 44) 3 = .ok (.invokevirtual 164, 3) := by decide +kernel
theorem u44_3 {d : Nat} {ls : Lo} {st : List Va} {σ : Sg} {Q : Rs → Sg → Prop} {g j : Nat} {a1 a2 : Va} : Wx (d + 1) 44 3 ls (a2 :: a1 :: vr g j :: st) σ Q ↔ (isO g j 3 ∧ st.length ≤ 4 ∧ nlg [a2, a1] = true) ∧ Wm d 43 [vr g j, a1, a2] σ (Kc (d + 1) 44 6 ls st Q) := u_inv2 d44_3 rfl rfl rfl
theorem d44_6 : decode (mB 44) 6 = .ok (.aload_n 0, 1) := by decide +kernel
theorem u44_6 {d : Nat} {ls : Lo} {st : List Va} {σ : Sg} {Q : Rs → Sg → Prop} : Wx d 44 6 ls st σ Q ↔ Lr (lget ls 0) (fun z => Wx d 44 7 ls (.inr (.inl z) :: st) σ Q) := u_aload_n d44_6
theorem d44_7 : decode (mB 44) 7 = .ok (.iconst (-1), 1) := by decide +kernel
theorem u44_7 {d : Nat} {ls : Lo} {st : List Va} {σ : Sg} {Q : Rs → Sg → Prop} : Wx d 44 7 ls st σ Q ↔ Wx d 44 8 ls (vi (-1) :: st) σ Q := u_iconst d44_7
theorem d44_8 : decode (mB 44) 8 = .ok (.iload_n 1, 1) := by decide +kernel
theorem u44_8 {d : Nat} {ls : Lo} {st : List Va} {σ : Sg} {Q : Rs → Sg → Prop} : Wx d 44 8 ls st σ Q ↔ Li (lget ls 1) (fun z => Wx d 44 9 ls (vi z :: st) σ Q) := u_iload_n d44_8
theorem d44_9 : decode (mB 44) 9 = .ok (.iconst 1, 1) := by decide +kernel
theorem u44_9 {d : Nat} {ls : Lo} {st : List Va} {σ : Sg} {Q : Rs → Sg → Prop} : Wx d 44 9 ls st σ Q ↔ Wx d 44 10 ls (vi 1 :: st) σ Q := u_iconst d44_9
theorem d44_10 : decode (mB 44) 10 = .ok (.iadd, 1) := by decide +kernel
theorem u44_10 {d : Nat} {ls : Lo} {st : List Va} {σ : Sg} {Q : Rs → Sg → Prop} {a b : Int} : Wx d 44 10 ls (vi b :: vi a :: st) σ Q ↔ Wx d 44 11 ls (vi (a + b) :: st) σ Q := u_iadd d44_10
theorem d44_11 : decode (mB 44) 11 = .ok (.invokevirtual 164, 3) := by decide +kernel
theorem u44_11 {d : Nat} {ls : Lo} {st : List Va} {σ : Sg} {Q : Rs → Sg → Prop} {g j : Nat} {a1 a2 : Va} : Wx (d + 1) 44 11 ls (a2 :: a1 :: vr g j :: st) σ Q ↔ (isO g j 3 ∧ st.length ≤ 4 ∧ nlg [a2, a1] = true) ∧ Wm d 43 [vr g j, a1, a2] σ (Kc (d + 1) 44 14 ls st Q) := u_inv2 d44_11 rfl rfl rfl
theorem d44_14 : decode (mB 44) 14 = .ok (.isub, 1) := by decide +kernel
theorem u44_14 {d : Nat} {ls : Lo} {st : List Va} {σ : Sg} {Q : Rs → Sg → Prop} {a b : Int} : Wx d 44 14 ls (vi b :: vi a :: st) σ Q ↔ Wx d 44 15 ls (vi (a - b) :: st) σ Q := u_isub d44_14
theorem d44_15 : decode (mB 44) 15 = .ok (.ireturn, 1) := by decide +kernel
theorem u44_15 {d : Nat} {ls : Lo} {σ : Sg} {Q : Rs → Sg → Prop} {z : Int} : Wx d 44 15 ls [vi z] σ Q ↔ Q (.inl (some (vi z))) σ := u_iret d44_15 rfl
/-! 45: FiguredBass$Chord.fees(I)I -/
theorem d45_0 : decode (mB 45) 0 = .ok (.bipush 9, 2) := by decide +kernel
theorem u45_0 {d : Nat} {ls : Lo} {st : List Va} {σ : Sg} {Q : Rs → Sg → Prop} : Wx d 45 0 ls st σ Q ↔ Wx d 45 2 ls (vi 9 :: st) σ Q := u_bipush d45_0 (by decide)
theorem d45_2 : decode (mB 45) 2 = .ok (.aload_n 0, 1) := by decide +kernel
theorem u45_2 {d : Nat} {ls : Lo} {st : List Va} {σ : Sg} {Q : Rs → Sg → Prop} : Wx d 45 2 ls st σ Q ↔ Lr (lget ls 0) (fun z => Wx d 45 3 ls (.inr (.inl z) :: st) σ Q) := u_aload_n d45_2
theorem d45_3 : decode (mB 45) 3 = .ok (.iload_n 1, 1) := by decide +kernel
theorem u45_3 {d : Nat} {ls : Lo} {st : List Va} {σ : Sg} {Q : Rs → Sg → Prop} : Wx d 45 3 ls st σ Q ↔ Li (lget ls 1) (fun z => Wx d 45 4 ls (vi z :: st) σ Q) := u_iload_n d45_3
theorem d45_4 : decode (mB 45) 4 = .ok (.aload_n 0, 1) := by decide +kernel
theorem u45_4 {d : Nat} {ls : Lo} {st : List Va} {σ : Sg} {Q : Rs → Sg → Prop} : Wx d 45 4 ls st σ Q ↔ Lr (lget ls 0) (fun z => Wx d 45 5 ls (.inr (.inl z) :: st) σ Q) := u_aload_n d45_4
theorem d45_5 : decode (mB 45) 5 = .ok (.getfield 64, 3) := by decide +kernel
theorem u45_5 {d : Nat} {ls : Lo} {st : List Va} {σ : Sg} {Q : Rs → Sg → Prop} {g j : Nat} : Wx d 45 5 ls (vr g j :: st) σ Q ↔ isO g j 3 ∧ Wx d 45 8 ls (fvv σ g j 12 :: st) σ Q := u_get (w := (3, 12)) d45_5 rfl
theorem d45_8 : decode (mB 45) 8 = .ok (.invokevirtual 167, 3) := by decide +kernel
theorem u45_8 {d : Nat} {ls : Lo} {st : List Va} {σ : Sg} {Q : Rs → Sg → Prop} {g j : Nat} {a1 a2 : Va} : Wx (d + 1) 45 8 ls (a2 :: a1 :: vr g j :: st) σ Q ↔ (isO g j 3 ∧ st.length ≤ 4 ∧ nlg [a2, a1] = true) ∧ Wm d 46 [vr g j, a1, a2] σ (Kc (d + 1) 45 11 ls st Q) := u_inv2 d45_8 rfl rfl rfl
theorem d45_11 : decode (mB 45) 11 = .ok (.imul, 1) := by decide +kernel
theorem u45_11 {d : Nat} {ls : Lo} {st : List Va} {σ : Sg} {Q : Rs → Sg → Prop} {a b : Int} : Wx d 45 11 ls (vi b :: vi a :: st) σ Q ↔ Wx d 45 12 ls (vi (a * b) :: st) σ Q := u_imul d45_11
theorem d45_12 : decode (mB 45) 12 = .ok (.bipush 9, 2) := by decide +kernel
theorem u45_12 {d : Nat} {ls : Lo} {st : List Va} {σ : Sg} {Q : Rs → Sg → Prop} : Wx d 45 12 ls st σ Q ↔ Wx d 45 14 ls (vi 9 :: st) σ Q := u_bipush d45_12 (by decide)
theorem d45_14 : decode (mB 45) 14 = .ok (.aload_n 0, 1) := by decide +kernel
theorem u45_14 {d : Nat} {ls : Lo} {st : List Va} {σ : Sg} {Q : Rs → Sg → Prop} : Wx d 45 14 ls st σ Q ↔ Lr (lget ls 0) (fun z => Wx d 45 15 ls (.inr (.inl z) :: st) σ Q) := u_aload_n d45_14
theorem d45_15 : decode (mB 45) 15 = .ok (.iload_n 1, 1) := by decide +kernel
theorem u45_15 {d : Nat} {ls : Lo} {st : List Va} {σ : Sg} {Q : Rs → Sg → Prop} : Wx d 45 15 ls st σ Q ↔ Li (lget ls 1) (fun z => Wx d 45 16 ls (vi z :: st) σ Q) := u_iload_n d45_15
theorem d45_16 : decode (mB 45) 16 = .ok (.aload_n 0, 1) := by decide +kernel
theorem u45_16 {d : Nat} {ls : Lo} {st : List Va} {σ : Sg} {Q : Rs → Sg → Prop} : Wx d 45 16 ls st σ Q ↔ Lr (lget ls 0) (fun z => Wx d 45 17 ls (.inr (.inl z) :: st) σ Q) := u_aload_n d45_16
theorem d45_17 : decode (mB 45) 17 = .ok (.getfield 44, 3) := by decide +kernel
theorem u45_17 {d : Nat} {ls : Lo} {st : List Va} {σ : Sg} {Q : Rs → Sg → Prop} {g j : Nat} : Wx d 45 17 ls (vr g j :: st) σ Q ↔ isO g j 3 ∧ Wx d 45 20 ls (fvv σ g j 13 :: st) σ Q := u_get (w := (3, 13)) d45_17 rfl
theorem d45_20 : decode (mB 45) 20 = .ok (.invokevirtual 167, 3) := by decide +kernel
theorem u45_20 {d : Nat} {ls : Lo} {st : List Va} {σ : Sg} {Q : Rs → Sg → Prop} {g j : Nat} {a1 a2 : Va} : Wx (d + 1) 45 20 ls (a2 :: a1 :: vr g j :: st) σ Q ↔ (isO g j 3 ∧ st.length ≤ 4 ∧ nlg [a2, a1] = true) ∧ Wm d 46 [vr g j, a1, a2] σ (Kc (d + 1) 45 23 ls st Q) := u_inv2 d45_20 rfl rfl rfl
theorem d45_23 : decode (mB 45) 23 = .ok (.imul, 1) := by decide +kernel
theorem u45_23 {d : Nat} {ls : Lo} {st : List Va} {σ : Sg} {Q : Rs → Sg → Prop} {a b : Int} : Wx d 45 23 ls (vi b :: vi a :: st) σ Q ↔ Wx d 45 24 ls (vi (a * b) :: st) σ Q := u_imul d45_23
theorem d45_24 : decode (mB 45) 24 = .ok (.iadd, 1) := by decide +kernel
theorem u45_24 {d : Nat} {ls : Lo} {st : List Va} {σ : Sg} {Q : Rs → Sg → Prop} {a b : Int} : Wx d 45 24 ls (vi b :: vi a :: st) σ Q ↔ Wx d 45 25 ls (vi (a + b) :: st) σ Q := u_iadd d45_24
theorem d45_25 : decode (mB 45) 25 = .ok (.iconst 3, 1) := by decide +kernel
theorem u45_25 {d : Nat} {ls : Lo} {st : List Va} {σ : Sg} {Q : Rs → Sg → Prop} : Wx d 45 25 ls st σ Q ↔ Wx d 45 26 ls (vi 3 :: st) σ Q := u_iconst d45_25
theorem d45_26 : decode (mB 45) 26 = .ok (.aload_n 0, 1) := by decide +kernel
theorem u45_26 {d : Nat} {ls : Lo} {st : List Va} {σ : Sg} {Q : Rs → Sg → Prop} : Wx d 45 26 ls st σ Q ↔ Lr (lget ls 0) (fun z => Wx d 45 27 ls (.inr (.inl z) :: st) σ Q) := u_aload_n d45_26
theorem d45_27 : decode (mB 45) 27 = .ok (.iload_n 1, 1) := by decide +kernel
theorem u45_27 {d : Nat} {ls : Lo} {st : List Va} {σ : Sg} {Q : Rs → Sg → Prop} : Wx d 45 27 ls st σ Q ↔ Li (lget ls 1) (fun z => Wx d 45 28 ls (vi z :: st) σ Q) := u_iload_n d45_27
theorem d45_28 : decode (mB 45) 28 = .ok (.aload_n 0, 1) := by decide +kernel
theorem u45_28 {d : Nat} {ls : Lo} {st : List Va} {σ : Sg} {Q : Rs → Sg → Prop} : Wx d 45 28 ls st σ Q ↔ Lr (lget ls 0) (fun z => Wx d 45 29 ls (.inr (.inl z) :: st) σ Q) := u_aload_n d45_28
theorem d45_29 : decode (mB 45) 29 = .ok (.getfield 47, 3) := by decide +kernel
theorem u45_29 {d : Nat} {ls : Lo} {st : List Va} {σ : Sg} {Q : Rs → Sg → Prop} {g j : Nat} : Wx d 45 29 ls (vr g j :: st) σ Q ↔ isO g j 3 ∧ Wx d 45 32 ls (fvv σ g j 14 :: st) σ Q := u_get (w := (3, 14)) d45_29 rfl
theorem d45_32 : decode (mB 45) 32 = .ok (.invokevirtual 167, 3) := by decide +kernel
theorem u45_32 {d : Nat} {ls : Lo} {st : List Va} {σ : Sg} {Q : Rs → Sg → Prop} {g j : Nat} {a1 a2 : Va} : Wx (d + 1) 45 32 ls (a2 :: a1 :: vr g j :: st) σ Q ↔ (isO g j 3 ∧ st.length ≤ 4 ∧ nlg [a2, a1] = true) ∧ Wm d 46 [vr g j, a1, a2] σ (Kc (d + 1) 45 35 ls st Q) := u_inv2 d45_32 rfl rfl rfl
theorem d45_35 : decode (mB 45) 35 = .ok (.imul, 1) := by decide +kernel
theorem u45_35 {d : Nat} {ls : Lo} {st : List Va} {σ : Sg} {Q : Rs → Sg → Prop} {a b : Int} : Wx d 45 35 ls (vi b :: vi a :: st) σ Q ↔ Wx d 45 36 ls (vi (a * b) :: st) σ Q := u_imul d45_35
theorem d45_36 : decode (mB 45) 36 = .ok (.iadd, 1) := by decide +kernel
theorem u45_36 {d : Nat} {ls : Lo} {st : List Va} {σ : Sg} {Q : Rs → Sg → Prop} {a b : Int} : Wx d 45 36 ls (vi b :: vi a :: st) σ Q ↔ Wx d 45 37 ls (vi (a + b) :: st) σ Q := u_iadd d45_36
theorem d45_37 : decode (mB 45) 37 = .ok (.ireturn, 1) := by decide +kernel
theorem u45_37 {d : Nat} {ls : Lo} {σ : Sg} {Q : Rs → Sg → Prop} {z : Int} : Wx d 45 37 ls [vi z] σ Q ↔ Q (.inl (some (vi z))) σ := u_iret d45_37 rfl
/-! 46: FiguredBass$Chord.doublings(II)I -/
theorem d46_0 : decode (mB 46) 0 = .ok (.iconst 0, 1) := by decide +kernel
theorem u46_0 {d : Nat} {ls : Lo} {st : List Va} {σ : Sg} {Q : Rs → Sg → Prop} : Wx d 46 0 ls st σ Q ↔ Wx d 46 1 ls (vi 0 :: st) σ Q := u_iconst d46_0
theorem d46_1 : decode (mB 46) 1 = .ok (.istore_n 3, 1) := by decide +kernel
theorem u46_1 {d : Nat} {ls : Lo} {st : List Va} {σ : Sg} {Q : Rs → Sg → Prop} {z : Int} : Wx d 46 1 ls (vi z :: st) σ Q ↔ Wx d 46 2 (lset ls 3 (vi z)) st σ Q := u_istore_n d46_1 (by decide)
theorem d46_2 : decode (mB 46) 2 = .ok (.iconst 0, 1) := by decide +kernel
theorem u46_2 {d : Nat} {ls : Lo} {st : List Va} {σ : Sg} {Q : Rs → Sg → Prop} : Wx d 46 2 ls st σ Q ↔ Wx d 46 3 ls (vi 0 :: st) σ Q := u_iconst d46_2
theorem d46_3 : decode (mB 46) 3 = .ok (.istore 4, 2) := by decide +kernel
theorem u46_3 {d : Nat} {ls : Lo} {st : List Va} {σ : Sg} {Q : Rs → Sg → Prop} {z : Int} : Wx d 46 3 ls (vi z :: st) σ Q ↔ Wx d 46 5 (lset ls 4 (vi z)) st σ Q := u_istore d46_3 (by decide)
theorem d46_5 : decode (mB 46) 5 = .ok (.iload 4, 2) := by decide +kernel
theorem u46_5 {d : Nat} {ls : Lo} {st : List Va} {σ : Sg} {Q : Rs → Sg → Prop} : Wx d 46 5 ls st σ Q ↔ Li (lget ls 4) (fun z => Wx d 46 7 ls (vi z :: st) σ Q) := u_iload d46_5
theorem d46_7 : decode (mB 46) 7 = .ok (.iconst 4, 1) := by decide +kernel
theorem u46_7 {d : Nat} {ls : Lo} {st : List Va} {σ : Sg} {Q : Rs → Sg → Prop} : Wx d 46 7 ls st σ Q ↔ Wx d 46 8 ls (vi 4 :: st) σ Q := u_iconst d46_7
theorem d46_8 : decode (mB 46) 8 = .ok (.if_icmp .ge 26, 3) := by decide +kernel
theorem u46_8 {d : Nat} {ls : Lo} {st : List Va} {σ : Sg} {Q : Rs → Sg → Prop} {a b : Int} (h : -2147483648 ≤ a ∧ a ≤ 2147483647) (h2 : -2147483648 ≤ b ∧ b ≤ 2147483647) : Wx d 46 8 ls (vi b :: vi a :: st) σ Q ↔ if b ≤ a then Wx d 46 34 ls st σ Q else Wx d 46 11 ls st σ Q := u_icge d46_8 (by decide) h h2
theorem d46_11 : decode (mB 46) 11 = .ok (.aload_n 0, 1) := by decide +kernel
theorem u46_11 {d : Nat} {ls : Lo} {st : List Va} {σ : Sg} {Q : Rs → Sg → Prop} : Wx d 46 11 ls st σ Q ↔ Lr (lget ls 0) (fun z => Wx d 46 12 ls (.inr (.inl z) :: st) σ Q) := u_aload_n d46_11
theorem d46_12 : decode (mB 46) 12 = .ok (.iload_n 1, 1) := by decide +kernel
theorem u46_12 {d : Nat} {ls : Lo} {st : List Va} {σ : Sg} {Q : Rs → Sg → Prop} : Wx d 46 12 ls st σ Q ↔ Li (lget ls 1) (fun z => Wx d 46 13 ls (vi z :: st) σ Q) := u_iload_n d46_12
theorem d46_13 : decode (mB 46) 13 = .ok (.iload 4, 2) := by decide +kernel
theorem u46_13 {d : Nat} {ls : Lo} {st : List Va} {σ : Sg} {Q : Rs → Sg → Prop} : Wx d 46 13 ls st σ Q ↔ Li (lget ls 4) (fun z => Wx d 46 15 ls (vi z :: st) σ Q) := u_iload d46_13
theorem d46_15 : decode (mB 46) 15 = .ok (.invokevirtual 164, 3) := by decide +kernel
theorem u46_15 {d : Nat} {ls : Lo} {st : List Va} {σ : Sg} {Q : Rs → Sg → Prop} {g j : Nat} {a1 a2 : Va} : Wx (d + 1) 46 15 ls (a2 :: a1 :: vr g j :: st) σ Q ↔ (isO g j 3 ∧ st.length ≤ 4 ∧ nlg [a2, a1] = true) ∧ Wm d 43 [vr g j, a1, a2] σ (Kc (d + 1) 46 18 ls st Q) := u_inv2 d46_15 rfl rfl rfl
theorem d46_18 : decode (mB 46) 18 = .ok (.bipush 12, 2) := by decide +kernel
theorem u46_18 {d : Nat} {ls : Lo} {st : List Va} {σ : Sg} {Q : Rs → Sg → Prop} : Wx d 46 18 ls st σ Q ↔ Wx d 46 20 ls (vi 12 :: st) σ Q := u_bipush d46_18 (by decide)
theorem d46_20 : decode (mB 46) 20 = .ok (.irem, 1) := by decide +kernel
theorem u46_20 {d : Nat} {ls : Lo} {st : List Va} {σ : Sg} {Q : Rs → Sg → Prop} {a b : Int} (h : (-2147483648 ≤ a ∧ a ≤ 2147483647) ∧ 0 < b ∧ b ≤ 2147483647) : Wx d 46 20 ls (vi b :: vi a :: st) σ Q ↔ Wx d 46 21 ls (vi (Int.tmod a b) :: st) σ Q := u_irem d46_20 h
theorem d46_21 : decode (mB 46) 21 = .ok (.iload_n 2, 1) := by decide +kernel
theorem u46_21 {d : Nat} {ls : Lo} {st : List Va} {σ : Sg} {Q : Rs → Sg → Prop} : Wx d 46 21 ls st σ Q ↔ Li (lget ls 2) (fun z => Wx d 46 22 ls (vi z :: st) σ Q) := u_iload_n d46_21
theorem d46_22 : decode (mB 46) 22 = .ok (.if_icmp .ne 6, 3) := by decide +kernel
theorem u46_22 {d : Nat} {ls : Lo} {st : List Va} {σ : Sg} {Q : Rs → Sg → Prop} {a b : Int} (h : -2147483648 ≤ a ∧ a ≤ 2147483647) (h2 : -2147483648 ≤ b ∧ b ≤ 2147483647) : Wx d 46 22 ls (vi b :: vi a :: st) σ Q ↔ if ¬ a = b then Wx d 46 28 ls st σ Q else Wx d 46 25 ls st σ Q := u_icne d46_22 (by decide) h h2
theorem d46_25 : decode (mB 46) 25 = .ok (.iinc 3 1, 3) := by decide +kernel
theorem u46_25 {d : Nat} {ls : Lo} {st : List Va} {σ : Sg} {Q : Rs → Sg → Prop} : Wx d 46 25 ls st σ Q ↔ Li (lget ls 3) (fun z => Wx d 46 28 (lset ls 3 (vi (z + 1))) st σ Q) := u_iinc d46_25 (by decide)
theorem d46_28 : decode (mB 46) 28 = .ok (.iinc 4 1, 3) := by decide +kernel
theorem u46_28 {d : Nat} {ls : Lo} {st : List Va} {σ : Sg} {Q : Rs → Sg → Prop} : Wx d 46 28 ls st σ Q ↔ Li (lget ls 4) (fun z => Wx d 46 31 (lset ls 4 (vi (z + 1))) st σ Q) := u_iinc d46_28 (by decide)
theorem d46_31 : decode (mB 46) 31 = .ok (.goto (-26), 3) := by decide +kernel
theorem u46_31 {d : Nat} {ls : Lo} {st : List Va} {σ : Sg} {Q : Rs → Sg → Prop} : Wx d 46 31 ls st σ Q ↔ Wx d 46 5 ls st σ Q := u_goto d46_31 (by decide)
theorem d46_34 : decode (mB 46) 34 = .ok (.iconst 0, 1) := by decide +kernel
theorem u46_34 {d : Nat} {ls : Lo} {st : List Va} {σ : Sg} {Q : Rs → Sg → Prop} : Wx d 46 34 ls st σ Q ↔ Wx d 46 35 ls (vi 0 :: st) σ Q := u_iconst d46_34
theorem d46_35 : decode (mB 46) 35 = .ok (.iload_n 3, 1) := by decide +kernel
theorem u46_35 {d : Nat} {ls : Lo} {st : List Va} {σ : Sg} {Q : Rs → Sg → Prop} : Wx d 46 35 ls st σ Q ↔ Li (lget ls 3) (fun z => Wx d 46 36 ls (vi z :: st) σ Q) := u_iload_n d46_35
theorem d46_36 : decode (mB 46) 36 = .ok (.iconst 1, 1) := by decide +kernel
theorem u46_36 {d : Nat} {ls : Lo} {st : List Va} {σ : Sg} {Q : Rs → Sg → Prop} : Wx d 46 36 ls st σ Q ↔ Wx d 46 37 ls (vi 1 :: st) σ Q := u_iconst d46_36
theorem d46_37 : decode (mB 46) 37 = .ok (.isub, 1) := by decide +kernel
theorem u46_37 {d : Nat} {ls : Lo} {st : List Va} {σ : Sg} {Q : Rs → Sg → Prop} {a b : Int} : Wx d 46 37 ls (vi b :: vi a :: st) σ Q ↔ Wx d 46 38 ls (vi (a - b) :: st) σ Q := u_isub d46_37
theorem d46_38 : decode (mB 46) 38 = .ok (.invokestatic 145, 3) := by decide +kernel
theorem u46_38 {d : Nat} {ls : Lo} {st : List Va} {σ : Sg} {Q : Rs → Sg → Prop} {a b : Int} (h : -2147483648 ≤ a ∧ a ≤ 2147483647) (h2 : -2147483648 ≤ b ∧ b ≤ 2147483647) (hl : st.length ≤ 4) : Wx d 46 38 ls (vi b :: vi a :: st) σ Q ↔ Wx d 46 41 ls (vi (max a b) :: st) σ Q := u_max d46_38 rfl h h2 hl
theorem d46_41 : decode (mB 46) 41 = .ok (.ireturn, 1) := by decide +kernel
theorem u46_41 {d : Nat} {ls : Lo} {σ : Sg} {Q : Rs → Sg → Prop} {z : Int} : Wx d 46 41 ls [vi z] σ Q ↔ Q (.inl (some (vi z))) σ := u_iret d46_41 rfl
