/-! 128: java/lang/Math.floorMod(II)I -/
theorem d128_0 : decode (mB 128) 0 = .ok (.iload_n 0, 1) := by decide +kernel
theorem u128_0 {d : Nat} {ls : Lo} {st : List Va} {σ : Sg} {Q : Rs → Sg → Prop} : Wx d 128 0 ls st σ Q ↔ Li (lget ls 0) (fun z => Wx d 128 1 ls (vi z :: st) σ Q) := u_iload_n d128_0
theorem d128_1 : decode (mB 128) 1 = .ok (.iload_n 1, 1) := by decide +kernel
theorem u128_1 {d : Nat} {ls : Lo} {st : List Va} {σ : Sg} {Q : Rs → Sg → Prop} : Wx d 128 1 ls st σ Q ↔ Li (lget ls 1) (fun z => Wx d 128 2 ls (vi z :: st) σ Q) := u_iload_n d128_1
theorem d128_2 : decode (mB 128) 2 = .ok (.irem, 1) := by decide +kernel
theorem u128_2 {d : Nat} {ls : Lo} {st : List Va} {σ : Sg} {Q : Rs → Sg → Prop} {a b : Int} (h : (-2147483648 ≤ a ∧ a ≤ 2147483647) ∧ 0 < b ∧ b ≤ 2147483647) : Wx d 128 2 ls (vi b :: vi a :: st) σ Q ↔ Wx d 128 3 ls (vi (Int.tmod a b) :: st) σ Q := u_irem d128_2 h
theorem d128_3 : decode (mB 128) 3 = .ok (.istore_n 2, 1) := by decide +kernel
theorem u128_3 {d : Nat} {ls : Lo} {st : List Va} {σ : Sg} {Q : Rs → Sg → Prop} {z : Int} : Wx d 128 3 ls (vi z :: st) σ Q ↔ Wx d 128 4 (lset ls 2 (vi z)) st σ Q := u_istore_n d128_3 (by decide)
theorem d128_4 : decode (mB 128) 4 = .ok (.iload_n 0, 1) := by decide +kernel
theorem u128_4 {d : Nat} {ls : Lo} {st : List Va} {σ : Sg} {Q : Rs → Sg → Prop} : Wx d 128 4 ls st σ Q ↔ Li (lget ls 0) (fun z => Wx d 128 5 ls (vi z :: st) σ Q) := u_iload_n d128_4
theorem d128_5 : decode (mB 128) 5 = .ok (.iload_n 1, 1) := by decide +kernel
theorem u128_5 {d : Nat} {ls : Lo} {st : List Va} {σ : Sg} {Q : Rs → Sg → Prop} : Wx d 128 5 ls st σ Q ↔ Li (lget ls 1) (fun z => Wx d 128 6 ls (vi z :: st) σ Q) := u_iload_n d128_5
theorem d128_6 : decode (mB 128) 6 = .ok (.ixor, 1) := by decide +kernel
theorem u128_6 {d : Nat} {ls : Lo} {st : List Va} {σ : Sg} {Q : Rs → Sg → Prop} {a b : Int} : Wx d 128 6 ls (vi b :: vi a :: st) σ Q ↔ Wx d 128 7 ls (vi ((i3 a ^^^ i3 b).toInt) :: st) σ Q := u_ixor d128_6
theorem d128_7 : decode (mB 128) 7 = .ok (.ifCond .ge 11, 3) := by decide +kernel
theorem u128_7 {d : Nat} {ls : Lo} {st : List Va} {σ : Sg} {Q : Rs → Sg → Prop} {a : Int} (h : -2147483648 ≤ a ∧ a ≤ 2147483647) : Wx d 128 7 ls (vi a :: st) σ Q ↔ if 0 ≤ a then Wx d 128 18 ls st σ Q else Wx d 128 10 ls st σ Q := u_ifge d128_7 (by decide) h
theorem d128_10 : decode (mB 128) 10 = .ok (.iload_n 2, 1) := by decide +kernel
theorem u128_10 {d : Nat} {ls : Lo} {st : List Va} {σ : Sg} {Q : Rs → Sg → Prop} : Wx d 128 10 ls st σ Q ↔ Li (lget ls 2) (fun z => Wx d 128 11 ls (vi z :: st) σ Q) := u_iload_n d128_10
theorem d128_11 : decode (mB 128) 11 = .ok (.ifCond .eq 7, 3) := by decide +kernel
theorem u128_11 {d : Nat} {ls : Lo} {st : List Va} {σ : Sg} {Q : Rs → Sg → Prop} {a : Int} (h : -2147483648 ≤ a ∧ a ≤ 2147483647) : Wx d 128 11 ls (vi a :: st) σ Q ↔ if a = 0 then Wx d 128 18 ls st σ Q else Wx d 128 14 ls st σ Q := u_ifeq d128_11 (by decide) h
theorem d128_14 : decode (mB 128) 14 = .ok (.iload_n 2, 1) := by decide +kernel
theorem u128_14 {d : Nat} {ls : Lo} {st : List Va} {σ : Sg} {Q : Rs → Sg → Prop} : Wx d 128 14 ls st σ Q ↔ Li (lget ls 2) (fun z => Wx d 128 15 ls (vi z :: st) σ Q) := u_iload_n d128_14
theorem d128_15 : decode (mB 128) 15 = .ok (.iload_n 1, 1) := by decide +kernel
theorem u128_15 {d : Nat} {ls : Lo} {st : List Va} {σ : Sg} {Q : Rs → Sg → Prop} : Wx d 128 15 ls st σ Q ↔ Li (lget ls 1) (fun z => Wx d 128 16 ls (vi z :: st) σ Q) := u_iload_n d128_15
theorem d128_16 : decode (mB 128) 16 = .ok (.iadd, 1) := by decide +kernel
theorem u128_16 {d : Nat} {ls : Lo} {st : List Va} {σ : Sg} {Q : Rs → Sg → Prop} {a b : Int} : Wx d 128 16 ls (vi b :: vi a :: st) σ Q ↔ Wx d 128 17 ls (vi (a + b) :: st) σ Q := u_iadd d128_16
theorem d128_17 : decode (mB 128) 17 = .ok (.ireturn, 1) := by decide +kernel
theorem u128_17 {d : Nat} {ls : Lo} {σ : Sg} {Q : Rs → Sg → Prop} {z : Int} : Wx d 128 17 ls [vi z] σ Q ↔ Q (.inl (some (vi z))) σ := u_iret d128_17 rfl
theorem d128_18 : decode (mB 128) 18 = .ok (.iload_n 2, 1) := by decide +kernel
theorem u128_18 {d : Nat} {ls : Lo} {st : List Va} {σ : Sg} {Q : Rs → Sg → Prop} : Wx d 128 18 ls st σ Q ↔ Li (lget ls 2) (fun z => Wx d 128 19 ls (vi z :: st) σ Q) := u_iload_n d128_18
theorem d128_19 : decode (mB 128) 19 = .ok (.ireturn, 1) := by decide +kernel
theorem u128_19 {d : Nat} {ls : Lo} {σ : Sg} {Q : Rs → Sg → Prop} {z : Int} : Wx d 128 19 ls [vi z] σ Q ↔ Q (.inl (some (vi z))) σ := u_iret d128_19 rfl
