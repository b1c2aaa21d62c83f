/-! 129: FiguredBassLaw.law([I)Z -/
theorem d129_20 : decode (mB 129) 20 = .ok (.iconst 0, 1) := by decide +kernel
theorem u129_20 {d : Nat} {ls : Lo} {st : List Va} {σ : Sg} {Q : Rs → Sg → Prop} : Wx d 129 20 ls st σ Q ↔ Wx d 129 21 ls (vi 0 :: st) σ Q := u_iconst d129_20
theorem d129_21 : decode (mB 129) 21 = .ok (.istore 4, 2) := by decide +kernel
theorem u129_21 {d : Nat} {ls : Lo} {st : List Va} {σ : Sg} {Q : Rs → Sg → Prop} {z : Int} : Wx d 129 21 ls (vi z :: st) σ Q ↔ Wx d 129 23 (lset ls 4 (vi z)) st σ Q := u_istore d129_21 (by decide)
theorem d129_23 : decode (mB 129) 23 = .ok (.iload 4, 2) := by decide +kernel
theorem u129_23 {d : Nat} {ls : Lo} {st : List Va} {σ : Sg} {Q : Rs → Sg → Prop} : Wx d 129 23 ls st σ Q ↔ Li (lget ls 4) (fun z => Wx d 129 25 ls (vi z :: st) σ Q) := u_iload d129_23
theorem d129_25 : decode (mB 129) 25 = .ok (.aload_n 0, 1) := by decide +kernel
theorem u129_25 {d : Nat} {ls : Lo} {st : List Va} {σ : Sg} {Q : Rs → Sg → Prop} : Wx d 129 25 ls st σ Q ↔ Lr (lget ls 0) (fun z => Wx d 129 26 ls (.inr (.inl z) :: st) σ Q) := u_aload_n d129_25
theorem d129_26 : decode (mB 129) 26 = .ok (.arraylength, 1) := by decide +kernel
theorem u129_26 {d : Nat} {ls : Lo} {st : List Va} {σ : Sg} {Q : Rs → Sg → Prop} {g j : Nat} : Wx d 129 26 ls (vr g j :: st) σ Q ↔ On (aln σ g j) (fun x => Wx d 129 27 ls (vi x :: st) σ Q) := u_alen d129_26
theorem d129_27 : decode (mB 129) 27 = .ok (.iconst 5, 1) := by decide +kernel
theorem u129_27 {d : Nat} {ls : Lo} {st : List Va} {σ : Sg} {Q : Rs → Sg → Prop} : Wx d 129 27 ls st σ Q ↔ Wx d 129 28 ls (vi 5 :: st) σ Q := u_iconst d129_27
theorem d129_28 : decode (mB 129) 28 = .ok (.isub, 1) := by decide +kernel
theorem u129_28 {d : Nat} {ls : Lo} {st : List Va} {σ : Sg} {Q : Rs → Sg → Prop} {a b : Int} : Wx d 129 28 ls (vi b :: vi a :: st) σ Q ↔ Wx d 129 29 ls (vi (a - b) :: st) σ Q := u_isub d129_28
theorem d129_29 : decode (mB 129) 29 = .ok (.if_icmp .gt 897, 3) := by decide +kernel
theorem u129_29 {d : Nat} {ls : Lo} {st : List Va} {σ : Sg} {Q : Rs → Sg → Prop} {a b : Int} (h : -2147483648 ≤ a ∧ a ≤ 2147483647) (h2 : -2147483648 ≤ b ∧ b ≤ 2147483647) : Wx d 129 29 ls (vi b :: vi a :: st) σ Q ↔ if b < a then Wx d 129 926 ls st σ Q else Wx d 129 32 ls st σ Q := u_icgt d129_29 (by decide) h h2
theorem d129_32 : decode (mB 129) 32 = .ok (.aload_n 0, 1) := by decide +kernel
theorem u129_32 {d : Nat} {ls : Lo} {st : List Va} {σ : Sg} {Q : Rs → Sg → Prop} : Wx d 129 32 ls st σ Q ↔ Lr (lget ls 0) (fun z => Wx d 129 33 ls (.inr (.inl z) :: st) σ Q) := u_aload_n d129_32
theorem d129_33 : decode (mB 129) 33 = .ok (.iload 4, 2) := by decide +kernel
theorem u129_33 {d : Nat} {ls : Lo} {st : List Va} {σ : Sg} {Q : Rs → Sg → Prop} : Wx d 129 33 ls st σ Q ↔ Li (lget ls 4) (fun z => Wx d 129 35 ls (vi z :: st) σ Q) := u_iload d129_33
theorem d129_35 : decode (mB 129) 35 = .ok (.iaload, 1) := by decide +kernel
theorem u129_35 {d : Nat} {ls : Lo} {st : List Va} {σ : Sg} {Q : Rs → Sg → Prop} {z : Int} {g j : Nat} : Wx d 129 35 ls (vi z :: vr g j :: st) σ Q ↔ On (ial σ g j z) (fun x => Wx d 129 36 ls (vi x :: st) σ Q) := u_iald d129_35
theorem d129_36 : decode (mB 129) 36 = .ok (.bipush 15, 2) := by decide +kernel
theorem u129_36 {d : Nat} {ls : Lo} {st : List Va} {σ : Sg} {Q : Rs → Sg → Prop} : Wx d 129 36 ls st σ Q ↔ Wx d 129 38 ls (vi 15 :: st) σ Q := u_bipush d129_36 (by decide)
theorem d129_38 : decode (mB 129) 38 = .ok (.iand, 1) := by decide +kernel
theorem u129_38 {d : Nat} {ls : Lo} {st : List Va} {σ : Sg} {Q : Rs → Sg → Prop} {a b : Int} : Wx d 129 38 ls (vi b :: vi a :: st) σ Q ↔ Wx d 129 39 ls (vi ((i3 a &&& i3 b).toInt) :: st) σ Q := u_iand d129_38
theorem d129_39 : decode (mB 129) 39 = .ok (.tableswitch 881 0 12 #[65, 129, 165, 257, 337, 405, 461, 541, 585, 653, 709, 769, 813], 65) := by decide +kernel
theorem u129_39 {d : Nat} {ls : Lo} {st : List Va} {σ : Sg} {Q : Rs → Sg → Prop} {a : Int} : Wx d 129 39 ls (vi a :: st) σ Q ↔ On (stpI 129 39 65 (.tableswitch 881 0 12 #[65, 129, 165, 257, 337, 405, 461, 541, 585, 653, 709, 769, 813]) ls (vi a :: st) σ) (fun q => Sum.elim (fun q => Wx d 129 q.1 q.2.1 q.2.2.1 q.2.2.2 Q) (fun _ => False) q) := u_table d129_39
theorem d129_104 : decode (mB 129) 104 = .ok (.aload_n 1, 1) := by decide +kernel
theorem u129_104 {d : Nat} {ls : Lo} {st : List Va} {σ : Sg} {Q : Rs → Sg → Prop} : Wx d 129 104 ls st σ Q ↔ Lr (lget ls 1) (fun z => Wx d 129 105 ls (.inr (.inl z) :: st) σ Q) := u_aload_n d129_104
theorem d129_105 : decode (mB 129) 105 = .ok (.aload_n 0, 1) := by decide +kernel
theorem u129_105 {d : Nat} {ls : Lo} {st : List Va} {σ : Sg} {Q : Rs → Sg → Prop} : Wx d 129 105 ls st σ Q ↔ Lr (lget ls 0) (fun z => Wx d 129 106 ls (.inr (.inl z) :: st) σ Q) := u_aload_n d129_105
theorem d129_106 : decode (mB 129) 106 = .ok (.iload 4, 2) := by decide +kernel
theorem u129_106 {d : Nat} {ls : Lo} {st : List Va} {σ : Sg} {Q : Rs → Sg → Prop} : Wx d 129 106 ls st σ Q ↔ Li (lget ls 4) (fun z => Wx d 129 108 ls (vi z :: st) σ Q) := u_iload d129_106
theorem d129_108 : decode (mB 129) 108 = .ok (.iconst 1, 1) := by decide +kernel
theorem u129_108 {d : Nat} {ls : Lo} {st : List Va} {σ : Sg} {Q : Rs → Sg → Prop} : Wx d 129 108 ls st σ Q ↔ Wx d 129 109 ls (vi 1 :: st) σ Q := u_iconst d129_108
theorem d129_109 : decode (mB 129) 109 = .ok (.iadd, 1) := by decide +kernel
theorem u129_109 {d : Nat} {ls : Lo} {st : List Va} {σ : Sg} {Q : Rs → Sg → Prop} {a b : Int} : Wx d 129 109 ls (vi b :: vi a :: st) σ Q ↔ Wx d 129 110 ls (vi (a + b) :: st) σ Q := u_iadd d129_109
theorem d129_110 : decode (mB 129) 110 = .ok (.iaload, 1) := by decide +kernel
theorem u129_110 {d : Nat} {ls : Lo} {st : List Va} {σ : Sg} {Q : Rs → Sg → Prop} {z : Int} {g j : Nat} : Wx d 129 110 ls (vi z :: vr g j :: st) σ Q ↔ On (ial σ g j z) (fun x => Wx d 129 111 ls (vi x :: st) σ Q) := u_iald d129_110
theorem d129_111 : decode (mB 129) 111 = .ok (.aload_n 0, 1) := by decide +kernel
theorem u129_111 {d : Nat} {ls : Lo} {st : List Va} {σ : Sg} {Q : Rs → Sg → Prop} : Wx d 129 111 ls st σ Q ↔ Lr (lget ls 0) (fun z => Wx d 129 112 ls (.inr (.inl z) :: st) σ Q) := u_aload_n d129_111
theorem d129_112 : decode (mB 129) 112 = .ok (.iload 4, 2) := by decide +kernel
theorem u129_112 {d : Nat} {ls : Lo} {st : List Va} {σ : Sg} {Q : Rs → Sg → Prop} : Wx d 129 112 ls st σ Q ↔ Li (lget ls 4) (fun z => Wx d 129 114 ls (vi z :: st) σ Q) := u_iload d129_112
theorem d129_114 : decode (mB 129) 114 = .ok (.iconst 2, 1) := by decide +kernel
theorem u129_114 {d : Nat} {ls : Lo} {st : List Va} {σ : Sg} {Q : Rs → Sg → Prop} : Wx d 129 114 ls st σ Q ↔ Wx d 129 115 ls (vi 2 :: st) σ Q := u_iconst d129_114
theorem d129_115 : decode (mB 129) 115 = .ok (.iadd, 1) := by decide +kernel
theorem u129_115 {d : Nat} {ls : Lo} {st : List Va} {σ : Sg} {Q : Rs → Sg → Prop} {a b : Int} : Wx d 129 115 ls (vi b :: vi a :: st) σ Q ↔ Wx d 129 116 ls (vi (a + b) :: st) σ Q := u_iadd d129_115
theorem d129_116 : decode (mB 129) 116 = .ok (.iaload, 1) := by decide +kernel
theorem u129_116 {d : Nat} {ls : Lo} {st : List Va} {σ : Sg} {Q : Rs → Sg → Prop} {z : Int} {g j : Nat} : Wx d 129 116 ls (vi z :: vr g j :: st) σ Q ↔ On (ial σ g j z) (fun x => Wx d 129 117 ls (vi x :: st) σ Q) := u_iald d129_116
theorem d129_117 : decode (mB 129) 117 = .ok (.ifCond .eq 7, 3) := by decide +kernel
theorem u129_117 {d : Nat} {ls : Lo} {st : List Va} {σ : Sg} {Q : Rs → Sg → Prop} {a : Int} (h : -2147483648 ≤ a ∧ a ≤ 2147483647) : Wx d 129 117 ls (vi a :: st) σ Q ↔ if a = 0 then Wx d 129 124 ls st σ Q else Wx d 129 120 ls st σ Q := u_ifeq d129_117 (by decide) h
theorem d129_120 : decode (mB 129) 120 = .ok (.iconst 1, 1) := by decide +kernel
theorem u129_120 {d : Nat} {ls : Lo} {st : List Va} {σ : Sg} {Q : Rs → Sg → Prop} : Wx d 129 120 ls st σ Q ↔ Wx d 129 121 ls (vi 1 :: st) σ Q := u_iconst d129_120
theorem d129_121 : decode (mB 129) 121 = .ok (.goto 4, 3) := by decide +kernel
theorem u129_121 {d : Nat} {ls : Lo} {st : List Va} {σ : Sg} {Q : Rs → Sg → Prop} : Wx d 129 121 ls st σ Q ↔ Wx d 129 125 ls st σ Q := u_goto d129_121 (by decide)
theorem d129_124 : decode (mB 129) 124 = .ok (.iconst 0, 1) := by decide +kernel
theorem u129_124 {d : Nat} {ls : Lo} {st : List Va} {σ : Sg} {Q : Rs → Sg → Prop} : Wx d 129 124 ls st σ Q ↔ Wx d 129 125 ls (vi 0 :: st) σ Q := u_iconst d129_124
theorem d129_125 : decode (mB 129) 125 = .ok (.invokestatic 66, 3) := by decide +kernel
theorem u129_125 {d : Nat} {ls : Lo} {st : List Va} {σ : Sg} {Q : Rs → Sg → Prop} {a1 a2 a3 : Va} : Wx (d + 1) 129 125 ls (a3 :: a2 :: a1 :: st) σ Q ↔ (st.length ≤ 4 ∧ nlg [a3, a2, a1] = true) ∧ Wm d 130 [a1, a2, a3] σ (Kc (d + 1) 129 128 ls st Q) := u_hlp3 d129_125 rfl rfl rfl rfl
theorem d129_128 : decode (mB 129) 128 = .ok (.istore 5, 2) := by decide +kernel
theorem u129_128 {d : Nat} {ls : Lo} {st : List Va} {σ : Sg} {Q : Rs → Sg → Prop} {z : Int} : Wx d 129 128 ls (vi z :: st) σ Q ↔ Wx d 129 130 (lset ls 5 (vi z)) st σ Q := u_istore d129_128 (by decide)
theorem d129_130 : decode (mB 129) 130 = .ok (.aload_n 2, 1) := by decide +kernel
theorem u129_130 {d : Nat} {ls : Lo} {st : List Va} {σ : Sg} {Q : Rs → Sg → Prop} : Wx d 129 130 ls st σ Q ↔ Lr (lget ls 2) (fun z => Wx d 129 131 ls (.inr (.inl z) :: st) σ Q) := u_aload_n d129_130
theorem d129_131 : decode (mB 129) 131 = .ok (.aload_n 0, 1) := by decide +kernel
theorem u129_131 {d : Nat} {ls : Lo} {st : List Va} {σ : Sg} {Q : Rs → Sg → Prop} : Wx d 129 131 ls st σ Q ↔ Lr (lget ls 0) (fun z => Wx d 129 132 ls (.inr (.inl z) :: st) σ Q) := u_aload_n d129_131
theorem d129_132 : decode (mB 129) 132 = .ok (.iload 4, 2) := by decide +kernel
theorem u129_132 {d : Nat} {ls : Lo} {st : List Va} {σ : Sg} {Q : Rs → Sg → Prop} : Wx d 129 132 ls st σ Q ↔ Li (lget ls 4) (fun z => Wx d 129 134 ls (vi z :: st) σ Q) := u_iload d129_132
theorem d129_134 : decode (mB 129) 134 = .ok (.iconst 1, 1) := by decide +kernel
theorem u129_134 {d : Nat} {ls : Lo} {st : List Va} {σ : Sg} {Q : Rs → Sg → Prop} : Wx d 129 134 ls st σ Q ↔ Wx d 129 135 ls (vi 1 :: st) σ Q := u_iconst d129_134
theorem d129_135 : decode (mB 129) 135 = .ok (.iadd, 1) := by decide +kernel
theorem u129_135 {d : Nat} {ls : Lo} {st : List Va} {σ : Sg} {Q : Rs → Sg → Prop} {a b : Int} : Wx d 129 135 ls (vi b :: vi a :: st) σ Q ↔ Wx d 129 136 ls (vi (a + b) :: st) σ Q := u_iadd d129_135
theorem d129_136 : decode (mB 129) 136 = .ok (.iaload, 1) := by decide +kernel
theorem u129_136 {d : Nat} {ls : Lo} {st : List Va} {σ : Sg} {Q : Rs → Sg → Prop} {z : Int} {g j : Nat} : Wx d 129 136 ls (vi z :: vr g j :: st) σ Q ↔ On (ial σ g j z) (fun x => Wx d 129 137 ls (vi x :: st) σ Q) := u_iald d129_136
theorem d129_137 : decode (mB 129) 137 = .ok (.aload_n 0, 1) := by decide +kernel
theorem u129_137 {d : Nat} {ls : Lo} {st : List Va} {σ : Sg} {Q : Rs → Sg → Prop} : Wx d 129 137 ls st σ Q ↔ Lr (lget ls 0) (fun z => Wx d 129 138 ls (.inr (.inl z) :: st) σ Q) := u_aload_n d129_137
theorem d129_138 : decode (mB 129) 138 = .ok (.iload 4, 2) := by decide +kernel
theorem u129_138 {d : Nat} {ls : Lo} {st : List Va} {σ : Sg} {Q : Rs → Sg → Prop} : Wx d 129 138 ls st σ Q ↔ Li (lget ls 4) (fun z => Wx d 129 140 ls (vi z :: st) σ Q) := u_iload d129_138
theorem d129_140 : decode (mB 129) 140 = .ok (.iconst 2, 1) := by decide +kernel
theorem u129_140 {d : Nat} {ls : Lo} {st : List Va} {σ : Sg} {Q : Rs → Sg → Prop} : Wx d 129 140 ls st σ Q ↔ Wx d 129 141 ls (vi 2 :: st) σ Q := u_iconst d129_140
theorem d129_141 : decode (mB 129) 141 = .ok (.iadd, 1) := by decide +kernel
theorem u129_141 {d : Nat} {ls : Lo} {st : List Va} {σ : Sg} {Q : Rs → Sg → Prop} {a b : Int} : Wx d 129 141 ls (vi b :: vi a :: st) σ Q ↔ Wx d 129 142 ls (vi (a + b) :: st) σ Q := u_iadd d129_141
theorem d129_142 : decode (mB 129) 142 = .ok (.iaload, 1) := by decide +kernel
theorem u129_142 {d : Nat} {ls : Lo} {st : List Va} {σ : Sg} {Q : Rs → Sg → Prop} {z : Int} {g j : Nat} : Wx d 129 142 ls (vi z :: vr g j :: st) σ Q ↔ On (ial σ g j z) (fun x => Wx d 129 143 ls (vi x :: st) σ Q) := u_iald d129_142
theorem d129_143 : decode (mB 129) 143 = .ok (.ifCond .eq 7, 3) := by decide +kernel
theorem u129_143 {d : Nat} {ls : Lo} {st : List Va} {σ : Sg} {Q : Rs → Sg → Prop} {a : Int} (h : -2147483648 ≤ a ∧ a ≤ 2147483647) : Wx d 129 143 ls (vi a :: st) σ Q ↔ if a = 0 then Wx d 129 150 ls st σ Q else Wx d 129 146 ls st σ Q := u_ifeq d129_143 (by decide) h
theorem d129_146 : decode (mB 129) 146 = .ok (.iconst 1, 1) := by decide +kernel
theorem u129_146 {d : Nat} {ls : Lo} {st : List Va} {σ : Sg} {Q : Rs → Sg → Prop} : Wx d 129 146 ls st σ Q ↔ Wx d 129 147 ls (vi 1 :: st) σ Q := u_iconst d129_146
theorem d129_147 : decode (mB 129) 147 = .ok (.goto 4, 3) := by decide +kernel
theorem u129_147 {d : Nat} {ls : Lo} {st : List Va} {σ : Sg} {Q : Rs → Sg → Prop} : Wx d 129 147 ls st σ Q ↔ Wx d 129 151 ls st σ Q := u_goto d129_147 (by decide)
theorem d129_150 : decode (mB 129) 150 = .ok (.iconst 0, 1) := by decide +kernel
theorem u129_150 {d : Nat} {ls : Lo} {st : List Va} {σ : Sg} {Q : Rs → Sg → Prop} : Wx d 129 150 ls st σ Q ↔ Wx d 129 151 ls (vi 0 :: st) σ Q := u_iconst d129_150
theorem d129_151 : decode (mB 129) 151 = .ok (.invokevirtual 71, 3) := by decide +kernel
theorem u129_151 {d : Nat} {ls : Lo} {st : List Va} {σ : Sg} {Q : Rs → Sg → Prop} {g j : Nat} {a1 a2 : Va} : Wx (d + 1) 129 151 ls (a2 :: a1 :: vr g j :: st) σ Q ↔ (isO g j 7 ∧ st.length ≤ 4 ∧ nlg [a2, a1] = true) ∧ Wm d 79 [vr g j, a1, a2] σ (Kc (d + 1) 129 154 ls st Q) := u_inv2 d129_151 rfl rfl rfl
theorem d129_154 : decode (mB 129) 154 = .ok (.aload_n 2, 1) := by decide +kernel
theorem u129_154 {d : Nat} {ls : Lo} {st : List Va} {σ : Sg} {Q : Rs → Sg → Prop} : Wx d 129 154 ls st σ Q ↔ Lr (lget ls 2) (fun z => Wx d 129 155 ls (.inr (.inl z) :: st) σ Q) := u_aload_n d129_154
theorem d129_155 : decode (mB 129) 155 = .ok (.invokevirtual 72, 3) := by decide +kernel
theorem u129_155 {d : Nat} {ls : Lo} {st : List Va} {σ : Sg} {Q : Rs → Sg → Prop} {g j : Nat} : Wx (d + 1) 129 155 ls (vr g j :: st) σ Q ↔ (isO g j 7 ∧ st.length ≤ 4 ∧ nlg [] = true) ∧ Wm d 74 [vr g j] σ (Kc (d + 1) 129 158 ls st Q) := u_inv0 d129_155 rfl rfl rfl
theorem d129_158 : decode (mB 129) 158 = .ok (.iload 5, 2) := by decide +kernel
theorem u129_158 {d : Nat} {ls : Lo} {st : List Va} {σ : Sg} {Q : Rs → Sg → Prop} : Wx d 129 158 ls st σ Q ↔ Li (lget ls 5) (fun z => Wx d 129 160 ls (vi z :: st) σ Q) := u_iload d129_158
theorem d129_160 : decode (mB 129) 160 = .ok (.if_icmp .eq 5, 3) := by decide +kernel
theorem u129_160 {d : Nat} {ls : Lo} {st : List Va} {σ : Sg} {Q : Rs → Sg → Prop} {a b : Int} (h : -2147483648 ≤ a ∧ a ≤ 2147483647) (h2 : -2147483648 ≤ b ∧ b ≤ 2147483647) : Wx d 129 160 ls (vi b :: vi a :: st) σ Q ↔ if a = b then Wx d 129 165 ls st σ Q else Wx d 129 163 ls st σ Q := u_iceq d129_160 (by decide) h h2
theorem d129_163 : decode (mB 129) 163 = .ok (.iconst 0, 1) := by decide +kernel
theorem u129_163 {d : Nat} {ls : Lo} {st : List Va} {σ : Sg} {Q : Rs → Sg → Prop} : Wx d 129 163 ls st σ Q ↔ Wx d 129 164 ls (vi 0 :: st) σ Q := u_iconst d129_163
theorem d129_164 : decode (mB 129) 164 = .ok (.ireturn, 1) := by decide +kernel
theorem u129_164 {d : Nat} {ls : Lo} {σ : Sg} {Q : Rs → Sg → Prop} {z : Int} (h : z = 0 ∨ z = 1) : Wx d 129 164 ls [vi z] σ Q ↔ Q (.inl (some (vi z))) σ := u_zret d129_164 rfl h
theorem d129_165 : decode (mB 129) 165 = .ok (.goto 755, 3) := by decide +kernel
theorem u129_165 {d : Nat} {ls : Lo} {st : List Va} {σ : Sg} {Q : Rs → Sg → Prop} : Wx d 129 165 ls st σ Q ↔ Wx d 129 920 ls st σ Q := u_goto d129_165 (by decide)
theorem d129_168 : decode (mB 129) 168 = .ok (.aload_n 1, 1) := by decide +kernel
theorem u129_168 {d : Nat} {ls : Lo} {st : List Va} {σ : Sg} {Q : Rs → Sg → Prop} : Wx d 129 168 ls st σ Q ↔ Lr (lget ls 1) (fun z => Wx d 129 169 ls (.inr (.inl z) :: st) σ Q) := u_aload_n d129_168
theorem d129_169 : decode (mB 129) 169 = .ok (.aload_n 0, 1) := by decide +kernel
theorem u129_169 {d : Nat} {ls : Lo} {st : List Va} {σ : Sg} {Q : Rs → Sg → Prop} : Wx d 129 169 ls st σ Q ↔ Lr (lget ls 0) (fun z => Wx d 129 170 ls (.inr (.inl z) :: st) σ Q) := u_aload_n d129_169
theorem d129_170 : decode (mB 129) 170 = .ok (.iload 4, 2) := by decide +kernel
theorem u129_170 {d : Nat} {ls : Lo} {st : List Va} {σ : Sg} {Q : Rs → Sg → Prop} : Wx d 129 170 ls st σ Q ↔ Li (lget ls 4) (fun z => Wx d 129 172 ls (vi z :: st) σ Q) := u_iload d129_170
theorem d129_172 : decode (mB 129) 172 = .ok (.iconst 1, 1) := by decide +kernel
theorem u129_172 {d : Nat} {ls : Lo} {st : List Va} {σ : Sg} {Q : Rs → Sg → Prop} : Wx d 129 172 ls st σ Q ↔ Wx d 129 173 ls (vi 1 :: st) σ Q := u_iconst d129_172
theorem d129_173 : decode (mB 129) 173 = .ok (.iadd, 1) := by decide +kernel
theorem u129_173 {d : Nat} {ls : Lo} {st : List Va} {σ : Sg} {Q : Rs → Sg → Prop} {a b : Int} : Wx d 129 173 ls (vi b :: vi a :: st) σ Q ↔ Wx d 129 174 ls (vi (a + b) :: st) σ Q := u_iadd d129_173
theorem d129_174 : decode (mB 129) 174 = .ok (.iaload, 1) := by decide +kernel
theorem u129_174 {d : Nat} {ls : Lo} {st : List Va} {σ : Sg} {Q : Rs → Sg → Prop} {z : Int} {g j : Nat} : Wx d 129 174 ls (vi z :: vr g j :: st) σ Q ↔ On (ial σ g j z) (fun x => Wx d 129 175 ls (vi x :: st) σ Q) := u_iald d129_174
theorem d129_175 : decode (mB 129) 175 = .ok (.invokestatic 75, 3) := by decide +kernel
theorem u129_175 {d : Nat} {ls : Lo} {st : List Va} {σ : Sg} {Q : Rs → Sg → Prop} {a1 a2 : Va} : Wx (d + 1) 129 175 ls (a2 :: a1 :: st) σ Q ↔ (st.length ≤ 4 ∧ nlg [a2, a1] = true) ∧ Wm d 131 [a1, a2] σ (Kc (d + 1) 129 178 ls st Q) := u_hlp2 d129_175 rfl rfl rfl rfl
theorem d129_178 : decode (mB 129) 178 = .ok (.istore 5, 2) := by decide +kernel
theorem u129_178 {d : Nat} {ls : Lo} {st : List Va} {σ : Sg} {Q : Rs → Sg → Prop} {z : Int} : Wx d 129 178 ls (vi z :: st) σ Q ↔ Wx d 129 180 (lset ls 5 (vi z)) st σ Q := u_istore d129_178 (by decide)
theorem d129_180 : decode (mB 129) 180 = .ok (.aload_n 2, 1) := by decide +kernel
theorem u129_180 {d : Nat} {ls : Lo} {st : List Va} {σ : Sg} {Q : Rs → Sg → Prop} : Wx d 129 180 ls st σ Q ↔ Lr (lget ls 2) (fun z => Wx d 129 181 ls (.inr (.inl z) :: st) σ Q) := u_aload_n d129_180
theorem d129_181 : decode (mB 129) 181 = .ok (.aload_n 0, 1) := by decide +kernel
theorem u129_181 {d : Nat} {ls : Lo} {st : List Va} {σ : Sg} {Q : Rs → Sg → Prop} : Wx d 129 181 ls st σ Q ↔ Lr (lget ls 0) (fun z => Wx d 129 182 ls (.inr (.inl z) :: st) σ Q) := u_aload_n d129_181
theorem d129_182 : decode (mB 129) 182 = .ok (.iload 4, 2) := by decide +kernel
theorem u129_182 {d : Nat} {ls : Lo} {st : List Va} {σ : Sg} {Q : Rs → Sg → Prop} : Wx d 129 182 ls st σ Q ↔ Li (lget ls 4) (fun z => Wx d 129 184 ls (vi z :: st) σ Q) := u_iload d129_182
theorem d129_184 : decode (mB 129) 184 = .ok (.iconst 1, 1) := by decide +kernel
theorem u129_184 {d : Nat} {ls : Lo} {st : List Va} {σ : Sg} {Q : Rs → Sg → Prop} : Wx d 129 184 ls st σ Q ↔ Wx d 129 185 ls (vi 1 :: st) σ Q := u_iconst d129_184
theorem d129_185 : decode (mB 129) 185 = .ok (.iadd, 1) := by decide +kernel
theorem u129_185 {d : Nat} {ls : Lo} {st : List Va} {σ : Sg} {Q : Rs → Sg → Prop} {a b : Int} : Wx d 129 185 ls (vi b :: vi a :: st) σ Q ↔ Wx d 129 186 ls (vi (a + b) :: st) σ Q := u_iadd d129_185
theorem d129_186 : decode (mB 129) 186 = .ok (.iaload, 1) := by decide +kernel
theorem u129_186 {d : Nat} {ls : Lo} {st : List Va} {σ : Sg} {Q : Rs → Sg → Prop} {z : Int} {g j : Nat} : Wx d 129 186 ls (vi z :: vr g j :: st) σ Q ↔ On (ial σ g j z) (fun x => Wx d 129 187 ls (vi x :: st) σ Q) := u_iald d129_186
theorem d129_187 : decode (mB 129) 187 = .ok (.invokevirtual 78, 3) := by decide +kernel
theorem u129_187 {d : Nat} {ls : Lo} {st : List Va} {σ : Sg} {Q : Rs → Sg → Prop} {g j : Nat} {a1 : Va} : Wx (d + 1) 129 187 ls (a1 :: vr g j :: st) σ Q ↔ (isO g j 7 ∧ st.length ≤ 4 ∧ nlg [a1] = true) ∧ Wm d 80 [vr g j, a1] σ (Kc (d + 1) 129 190 ls st Q) := u_inv1 d129_187 rfl rfl rfl
theorem d129_190 : decode (mB 129) 190 = .ok (.aload_n 2, 1) := by decide +kernel
theorem u129_190 {d : Nat} {ls : Lo} {st : List Va} {σ : Sg} {Q : Rs → Sg → Prop} : Wx d 129 190 ls st σ Q ↔ Lr (lget ls 2) (fun z => Wx d 129 191 ls (.inr (.inl z) :: st) σ Q) := u_aload_n d129_190
theorem d129_191 : decode (mB 129) 191 = .ok (.invokevirtual 72, 3) := by decide +kernel
theorem u129_191 {d : Nat} {ls : Lo} {st : List Va} {σ : Sg} {Q : Rs → Sg → Prop} {g j : Nat} : Wx (d + 1) 129 191 ls (vr g j :: st) σ Q ↔ (isO g j 7 ∧ st.length ≤ 4 ∧ nlg [] = true) ∧ Wm d 74 [vr g j] σ (Kc (d + 1) 129 194 ls st Q) := u_inv0 d129_191 rfl rfl rfl
theorem d129_194 : decode (mB 129) 194 = .ok (.iload 5, 2) := by decide +kernel
theorem u129_194 {d : Nat} {ls : Lo} {st : List Va} {σ : Sg} {Q : Rs → Sg → Prop} : Wx d 129 194 ls st σ Q ↔ Li (lget ls 5) (fun z => Wx d 129 196 ls (vi z :: st) σ Q) := u_iload d129_194
theorem d129_196 : decode (mB 129) 196 = .ok (.if_icmp .eq 5, 3) := by decide +kernel
theorem u129_196 {d : Nat} {ls : Lo} {st : List Va} {σ : Sg} {Q : Rs → Sg → Prop} {a b : Int} (h : -2147483648 ≤ a ∧ a ≤ 2147483647) (h2 : -2147483648 ≤ b ∧ b ≤ 2147483647) : Wx d 129 196 ls (vi b :: vi a :: st) σ Q ↔ if a = b then Wx d 129 201 ls st σ Q else Wx d 129 199 ls st σ Q := u_iceq d129_196 (by decide) h h2
theorem d129_199 : decode (mB 129) 199 = .ok (.iconst 0, 1) := by decide +kernel
theorem u129_199 {d : Nat} {ls : Lo} {st : List Va} {σ : Sg} {Q : Rs → Sg → Prop} : Wx d 129 199 ls st σ Q ↔ Wx d 129 200 ls (vi 0 :: st) σ Q := u_iconst d129_199
theorem d129_200 : decode (mB 129) 200 = .ok (.ireturn, 1) := by decide +kernel
theorem u129_200 {d : Nat} {ls : Lo} {σ : Sg} {Q : Rs → Sg → Prop} {z : Int} (h : z = 0 ∨ z = 1) : Wx d 129 200 ls [vi z] σ Q ↔ Q (.inl (some (vi z))) σ := u_zret d129_200 rfl h
theorem d129_201 : decode (mB 129) 201 = .ok (.goto 719, 3) := by decide +kernel
theorem u129_201 {d : Nat} {ls : Lo} {st : List Va} {σ : Sg} {Q : Rs → Sg → Prop} : Wx d 129 201 ls st σ Q ↔ Wx d 129 920 ls st σ Q := u_goto d129_201 (by decide)
theorem d129_204 : decode (mB 129) 204 = .ok (.aload_n 1, 1) := by decide +kernel
theorem u129_204 {d : Nat} {ls : Lo} {st : List Va} {σ : Sg} {Q : Rs → Sg → Prop} : Wx d 129 204 ls st σ Q ↔ Lr (lget ls 1) (fun z => Wx d 129 205 ls (.inr (.inl z) :: st) σ Q) := u_aload_n d129_204
theorem d129_205 : decode (mB 129) 205 = .ok (.aload_n 0, 1) := by decide +kernel
theorem u129_205 {d : Nat} {ls : Lo} {st : List Va} {σ : Sg} {Q : Rs → Sg → Prop} : Wx d 129 205 ls st σ Q ↔ Lr (lget ls 0) (fun z => Wx d 129 206 ls (.inr (.inl z) :: st) σ Q) := u_aload_n d129_205
theorem d129_206 : decode (mB 129) 206 = .ok (.iload 4, 2) := by decide +kernel
theorem u129_206 {d : Nat} {ls : Lo} {st : List Va} {σ : Sg} {Q : Rs → Sg → Prop} : Wx d 129 206 ls st σ Q ↔ Li (lget ls 4) (fun z => Wx d 129 208 ls (vi z :: st) σ Q) := u_iload d129_206
theorem d129_208 : decode (mB 129) 208 = .ok (.iconst 1, 1) := by decide +kernel
theorem u129_208 {d : Nat} {ls : Lo} {st : List Va} {σ : Sg} {Q : Rs → Sg → Prop} : Wx d 129 208 ls st σ Q ↔ Wx d 129 209 ls (vi 1 :: st) σ Q := u_iconst d129_208
theorem d129_209 : decode (mB 129) 209 = .ok (.iadd, 1) := by decide +kernel
theorem u129_209 {d : Nat} {ls : Lo} {st : List Va} {σ : Sg} {Q : Rs → Sg → Prop} {a b : Int} : Wx d 129 209 ls (vi b :: vi a :: st) σ Q ↔ Wx d 129 210 ls (vi (a + b) :: st) σ Q := u_iadd d129_209
theorem d129_210 : decode (mB 129) 210 = .ok (.iaload, 1) := by decide +kernel
theorem u129_210 {d : Nat} {ls : Lo} {st : List Va} {σ : Sg} {Q : Rs → Sg → Prop} {z : Int} {g j : Nat} : Wx d 129 210 ls (vi z :: vr g j :: st) σ Q ↔ On (ial σ g j z) (fun x => Wx d 129 211 ls (vi x :: st) σ Q) := u_iald d129_210
theorem d129_211 : decode (mB 129) 211 = .ok (.aload_n 0, 1) := by decide +kernel
theorem u129_211 {d : Nat} {ls : Lo} {st : List Va} {σ : Sg} {Q : Rs → Sg → Prop} : Wx d 129 211 ls st σ Q ↔ Lr (lget ls 0) (fun z => Wx d 129 212 ls (.inr (.inl z) :: st) σ Q) := u_aload_n d129_211
theorem d129_212 : decode (mB 129) 212 = .ok (.iload 4, 2) := by decide +kernel
theorem u129_212 {d : Nat} {ls : Lo} {st : List Va} {σ : Sg} {Q : Rs → Sg → Prop} : Wx d 129 212 ls st σ Q ↔ Li (lget ls 4) (fun z => Wx d 129 214 ls (vi z :: st) σ Q) := u_iload d129_212
theorem d129_214 : decode (mB 129) 214 = .ok (.iconst 2, 1) := by decide +kernel
theorem u129_214 {d : Nat} {ls : Lo} {st : List Va} {σ : Sg} {Q : Rs → Sg → Prop} : Wx d 129 214 ls st σ Q ↔ Wx d 129 215 ls (vi 2 :: st) σ Q := u_iconst d129_214
theorem d129_215 : decode (mB 129) 215 = .ok (.iadd, 1) := by decide +kernel
theorem u129_215 {d : Nat} {ls : Lo} {st : List Va} {σ : Sg} {Q : Rs → Sg → Prop} {a b : Int} : Wx d 129 215 ls (vi b :: vi a :: st) σ Q ↔ Wx d 129 216 ls (vi (a + b) :: st) σ Q := u_iadd d129_215
theorem d129_216 : decode (mB 129) 216 = .ok (.iaload, 1) := by decide +kernel
theorem u129_216 {d : Nat} {ls : Lo} {st : List Va} {σ : Sg} {Q : Rs → Sg → Prop} {z : Int} {g j : Nat} : Wx d 129 216 ls (vi z :: vr g j :: st) σ Q ↔ On (ial σ g j z) (fun x => Wx d 129 217 ls (vi x :: st) σ Q) := u_iald d129_216
theorem d129_217 : decode (mB 129) 217 = .ok (.aload_n 0, 1) := by decide +kernel
theorem u129_217 {d : Nat} {ls : Lo} {st : List Va} {σ : Sg} {Q : Rs → Sg → Prop} : Wx d 129 217 ls st σ Q ↔ Lr (lget ls 0) (fun z => Wx d 129 218 ls (.inr (.inl z) :: st) σ Q) := u_aload_n d129_217
theorem d129_218 : decode (mB 129) 218 = .ok (.iload 4, 2) := by decide +kernel
theorem u129_218 {d : Nat} {ls : Lo} {st : List Va} {σ : Sg} {Q : Rs → Sg → Prop} : Wx d 129 218 ls st σ Q ↔ Li (lget ls 4) (fun z => Wx d 129 220 ls (vi z :: st) σ Q) := u_iload d129_218
theorem d129_220 : decode (mB 129) 220 = .ok (.iconst 3, 1) := by decide +kernel
theorem u129_220 {d : Nat} {ls : Lo} {st : List Va} {σ : Sg} {Q : Rs → Sg → Prop} : Wx d 129 220 ls st σ Q ↔ Wx d 129 221 ls (vi 3 :: st) σ Q := u_iconst d129_220
theorem d129_221 : decode (mB 129) 221 = .ok (.iadd, 1) := by decide +kernel
theorem u129_221 {d : Nat} {ls : Lo} {st : List Va} {σ : Sg} {Q : Rs → Sg → Prop} {a b : Int} : Wx d 129 221 ls (vi b :: vi a :: st) σ Q ↔ Wx d 129 222 ls (vi (a + b) :: st) σ Q := u_iadd d129_221
theorem d129_222 : decode (mB 129) 222 = .ok (.iaload, 1) := by decide +kernel
theorem u129_222 {d : Nat} {ls : Lo} {st : List Va} {σ : Sg} {Q : Rs → Sg → Prop} {z : Int} {g j : Nat} : Wx d 129 222 ls (vi z :: vr g j :: st) σ Q ↔ On (ial σ g j z) (fun x => Wx d 129 223 ls (vi x :: st) σ Q) := u_iald d129_222
theorem d129_223 : decode (mB 129) 223 = .ok (.aload_n 0, 1) := by decide +kernel
theorem u129_223 {d : Nat} {ls : Lo} {st : List Va} {σ : Sg} {Q : Rs → Sg → Prop} : Wx d 129 223 ls st σ Q ↔ Lr (lget ls 0) (fun z => Wx d 129 224 ls (.inr (.inl z) :: st) σ Q) := u_aload_n d129_223
theorem d129_224 : decode (mB 129) 224 = .ok (.iload 4, 2) := by decide +kernel
theorem u129_224 {d : Nat} {ls : Lo} {st : List Va} {σ : Sg} {Q : Rs → Sg → Prop} : Wx d 129 224 ls st σ Q ↔ Li (lget ls 4) (fun z => Wx d 129 226 ls (vi z :: st) σ Q) := u_iload d129_224
theorem d129_226 : decode (mB 129) 226 = .ok (.iconst 4, 1) := by decide +kernel
theorem u129_226 {d : Nat} {ls : Lo} {st : List Va} {σ : Sg} {Q : Rs → Sg → Prop} : Wx d 129 226 ls st σ Q ↔ Wx d 129 227 ls (vi 4 :: st) σ Q := u_iconst d129_226
theorem d129_227 : decode (mB 129) 227 = .ok (.iadd, 1) := by decide +kernel
theorem u129_227 {d : Nat} {ls : Lo} {st : List Va} {σ : Sg} {Q : Rs → Sg → Prop} {a b : Int} : Wx d 129 227 ls (vi b :: vi a :: st) σ Q ↔ Wx d 129 228 ls (vi (a + b) :: st) σ Q := u_iadd d129_227
theorem d129_228 : decode (mB 129) 228 = .ok (.iaload, 1) := by decide +kernel
theorem u129_228 {d : Nat} {ls : Lo} {st : List Va} {σ : Sg} {Q : Rs → Sg → Prop} {z : Int} {g j : Nat} : Wx d 129 228 ls (vi z :: vr g j :: st) σ Q ↔ On (ial σ g j z) (fun x => Wx d 129 229 ls (vi x :: st) σ Q) := u_iald d129_228
theorem d129_229 : decode (mB 129) 229 = .ok (.aload_n 3, 1) := by decide +kernel
theorem u129_229 {d : Nat} {ls : Lo} {st : List Va} {σ : Sg} {Q : Rs → Sg → Prop} : Wx d 129 229 ls st σ Q ↔ Lr (lget ls 3) (fun z => Wx d 129 230 ls (.inr (.inl z) :: st) σ Q) := u_aload_n d129_229
theorem d129_230 : decode (mB 129) 230 = .ok (.invokestatic 79, 3) := by decide +kernel
theorem u129_230 {d : Nat} {ls : Lo} {st : List Va} {σ : Sg} {Q : Rs → Sg → Prop} {a1 a2 a3 a4 a5 a6 : Va} : Wx (d + 1) 129 230 ls (a6 :: a5 :: a4 :: a3 :: a2 :: a1 :: st) σ Q ↔ (st.length ≤ 4 ∧ nlg [a6, a5, a4, a3, a2, a1] = true) ∧ Wm d 132 [a1, a2, a3, a4, a5, a6] σ (Kc (d + 1) 129 233 ls st Q) := u_hlp6 d129_230 rfl rfl rfl rfl
theorem d129_233 : decode (mB 129) 233 = .ok (.istore 5, 2) := by decide +kernel
theorem u129_233 {d : Nat} {ls : Lo} {st : List Va} {σ : Sg} {Q : Rs → Sg → Prop} {z : Int} : Wx d 129 233 ls (vi z :: st) σ Q ↔ Wx d 129 235 (lset ls 5 (vi z)) st σ Q := u_istore d129_233 (by decide)
theorem d129_235 : decode (mB 129) 235 = .ok (.aload_n 2, 1) := by decide +kernel
theorem u129_235 {d : Nat} {ls : Lo} {st : List Va} {σ : Sg} {Q : Rs → Sg → Prop} : Wx d 129 235 ls st σ Q ↔ Lr (lget ls 2) (fun z => Wx d 129 236 ls (.inr (.inl z) :: st) σ Q) := u_aload_n d129_235
theorem d129_236 : decode (mB 129) 236 = .ok (.aload_n 0, 1) := by decide +kernel
theorem u129_236 {d : Nat} {ls : Lo} {st : List Va} {σ : Sg} {Q : Rs → Sg → Prop} : Wx d 129 236 ls st σ Q ↔ Lr (lget ls 0) (fun z => Wx d 129 237 ls (.inr (.inl z) :: st) σ Q) := u_aload_n d129_236
theorem d129_237 : decode (mB 129) 237 = .ok (.iload 4, 2) := by decide +kernel
theorem u129_237 {d : Nat} {ls : Lo} {st : List Va} {σ : Sg} {Q : Rs → Sg → Prop} : Wx d 129 237 ls st σ Q ↔ Li (lget ls 4) (fun z => Wx d 129 239 ls (vi z :: st) σ Q) := u_iload d129_237
theorem d129_239 : decode (mB 129) 239 = .ok (.iconst 1, 1) := by decide +kernel
theorem u129_239 {d : Nat} {ls : Lo} {st : List Va} {σ : Sg} {Q : Rs → Sg → Prop} : Wx d 129 239 ls st σ Q ↔ Wx d 129 240 ls (vi 1 :: st) σ Q := u_iconst d129_239
theorem d129_240 : decode (mB 129) 240 = .ok (.iadd, 1) := by decide +kernel
theorem u129_240 {d : Nat} {ls : Lo} {st : List Va} {σ : Sg} {Q : Rs → Sg → Prop} {a b : Int} : Wx d 129 240 ls (vi b :: vi a :: st) σ Q ↔ Wx d 129 241 ls (vi (a + b) :: st) σ Q := u_iadd d129_240
theorem d129_241 : decode (mB 129) 241 = .ok (.iaload, 1) := by decide +kernel
theorem u129_241 {d : Nat} {ls : Lo} {st : List Va} {σ : Sg} {Q : Rs → Sg → Prop} {z : Int} {g j : Nat} : Wx d 129 241 ls (vi z :: vr g j :: st) σ Q ↔ On (ial σ g j z) (fun x => Wx d 129 242 ls (vi x :: st) σ Q) := u_iald d129_241
theorem d129_242 : decode (mB 129) 242 = .ok (.aload_n 0, 1) := by decide +kernel
theorem u129_242 {d : Nat} {ls : Lo} {st : List Va} {σ : Sg} {Q : Rs → Sg → Prop} : Wx d 129 242 ls st σ Q ↔ Lr (lget ls 0) (fun z => Wx d 129 243 ls (.inr (.inl z) :: st) σ Q) := u_aload_n d129_242
theorem d129_243 : decode (mB 129) 243 = .ok (.iload 4, 2) := by decide +kernel
theorem u129_243 {d : Nat} {ls : Lo} {st : List Va} {σ : Sg} {Q : Rs → Sg → Prop} : Wx d 129 243 ls st σ Q ↔ Li (lget ls 4) (fun z => Wx d 129 245 ls (vi z :: st) σ Q) := u_iload d129_243
theorem d129_245 : decode (mB 129) 245 = .ok (.iconst 2, 1) := by decide +kernel
theorem u129_245 {d : Nat} {ls : Lo} {st : List Va} {σ : Sg} {Q : Rs → Sg → Prop} : Wx d 129 245 ls st σ Q ↔ Wx d 129 246 ls (vi 2 :: st) σ Q := u_iconst d129_245
theorem d129_246 : decode (mB 129) 246 = .ok (.iadd, 1) := by decide +kernel
theorem u129_246 {d : Nat} {ls : Lo} {st : List Va} {σ : Sg} {Q : Rs → Sg → Prop} {a b : Int} : Wx d 129 246 ls (vi b :: vi a :: st) σ Q ↔ Wx d 129 247 ls (vi (a + b) :: st) σ Q := u_iadd d129_246
theorem d129_247 : decode (mB 129) 247 = .ok (.iaload, 1) := by decide +kernel
theorem u129_247 {d : Nat} {ls : Lo} {st : List Va} {σ : Sg} {Q : Rs → Sg → Prop} {z : Int} {g j : Nat} : Wx d 129 247 ls (vi z :: vr g j :: st) σ Q ↔ On (ial σ g j z) (fun x => Wx d 129 248 ls (vi x :: st) σ Q) := u_iald d129_247
theorem d129_248 : decode (mB 129) 248 = .ok (.aload_n 0, 1) := by decide +kernel
theorem u129_248 {d : Nat} {ls : Lo} {st : List Va} {σ : Sg} {Q : Rs → Sg → Prop} : Wx d 129 248 ls st σ Q ↔ Lr (lget ls 0) (fun z => Wx d 129 249 ls (.inr (.inl z) :: st) σ Q) := u_aload_n d129_248
theorem d129_249 : decode (mB 129) 249 = .ok (.iload 4, 2) := by decide +kernel
theorem u129_249 {d : Nat} {ls : Lo} {st : List Va} {σ : Sg} {Q : Rs → Sg → Prop} : Wx d 129 249 ls st σ Q ↔ Li (lget ls 4) (fun z => Wx d 129 251 ls (vi z :: st) σ Q) := u_iload d129_249
theorem d129_251 : decode (mB 129) 251 = .ok (.iconst 3, 1) := by decide +kernel
theorem u129_251 {d : Nat} {ls : Lo} {st : List Va} {σ : Sg} {Q : Rs → Sg → Prop} : Wx d 129 251 ls st σ Q ↔ Wx d 129 252 ls (vi 3 :: st) σ Q := u_iconst d129_251
theorem d129_252 : decode (mB 129) 252 = .ok (.iadd, 1) := by decide +kernel
theorem u129_252 {d : Nat} {ls : Lo} {st : List Va} {σ : Sg} {Q : Rs → Sg → Prop} {a b : Int} : Wx d 129 252 ls (vi b :: vi a :: st) σ Q ↔ Wx d 129 253 ls (vi (a + b) :: st) σ Q := u_iadd d129_252
theorem d129_253 : decode (mB 129) 253 = .ok (.iaload, 1) := by decide +kernel
theorem u129_253 {d : Nat} {ls : Lo} {st : List Va} {σ : Sg} {Q : Rs → Sg → Prop} {z : Int} {g j : Nat} : Wx d 129 253 ls (vi z :: vr g j :: st) σ Q ↔ On (ial σ g j z) (fun x => Wx d 129 254 ls (vi x :: st) σ Q) := u_iald d129_253
theorem d129_254 : decode (mB 129) 254 = .ok (.aload_n 0, 1) := by decide +kernel
theorem u129_254 {d : Nat} {ls : Lo} {st : List Va} {σ : Sg} {Q : Rs → Sg → Prop} : Wx d 129 254 ls st σ Q ↔ Lr (lget ls 0) (fun z => Wx d 129 255 ls (.inr (.inl z) :: st) σ Q) := u_aload_n d129_254
theorem d129_255 : decode (mB 129) 255 = .ok (.iload 4, 2) := by decide +kernel
theorem u129_255 {d : Nat} {ls : Lo} {st : List Va} {σ : Sg} {Q : Rs → Sg → Prop} : Wx d 129 255 ls st σ Q ↔ Li (lget ls 4) (fun z => Wx d 129 257 ls (vi z :: st) σ Q) := u_iload d129_255
theorem d129_257 : decode (mB 129) 257 = .ok (.iconst 4, 1) := by decide +kernel
theorem u129_257 {d : Nat} {ls : Lo} {st : List Va} {σ : Sg} {Q : Rs → Sg → Prop} : Wx d 129 257 ls st σ Q ↔ Wx d 129 258 ls (vi 4 :: st) σ Q := u_iconst d129_257
theorem d129_258 : decode (mB 129) 258 = .ok (.iadd, 1) := by decide +kernel
theorem u129_258 {d : Nat} {ls : Lo} {st : List Va} {σ : Sg} {Q : Rs → Sg → Prop} {a b : Int} : Wx d 129 258 ls (vi b :: vi a :: st) σ Q ↔ Wx d 129 259 ls (vi (a + b) :: st) σ Q := u_iadd d129_258
theorem d129_259 : decode (mB 129) 259 = .ok (.iaload, 1) := by decide +kernel
theorem u129_259 {d : Nat} {ls : Lo} {st : List Va} {σ : Sg} {Q : Rs → Sg → Prop} {z : Int} {g j : Nat} : Wx d 129 259 ls (vi z :: vr g j :: st) σ Q ↔ On (ial σ g j z) (fun x => Wx d 129 260 ls (vi x :: st) σ Q) := u_iald d129_259
theorem d129_260 : decode (mB 129) 260 = .ok (.invokevirtual 82, 3) := by decide +kernel
theorem u129_260 {d : Nat} {ls : Lo} {st : List Va} {σ : Sg} {Q : Rs → Sg → Prop} {g j : Nat} {a1 a2 a3 a4 : Va} : Wx (d + 1) 129 260 ls (a4 :: a3 :: a2 :: a1 :: vr g j :: st) σ Q ↔ (isO g j 7 ∧ st.length ≤ 4 ∧ nlg [a4, a3, a2, a1] = true) ∧ Wm d 82 [vr g j, a1, a2, a3, a4] σ (Kc (d + 1) 129 263 ls st Q) := u_inv4 d129_260 rfl rfl rfl
theorem d129_263 : decode (mB 129) 263 = .ok (.istore 6, 2) := by decide +kernel
theorem u129_263 {d : Nat} {ls : Lo} {st : List Va} {σ : Sg} {Q : Rs → Sg → Prop} {z : Int} : Wx d 129 263 ls (vi z :: st) σ Q ↔ Wx d 129 265 (lset ls 6 (vi z)) st σ Q := u_istore d129_263 (by decide)
theorem d129_265 : decode (mB 129) 265 = .ok (.aload_n 2, 1) := by decide +kernel
theorem u129_265 {d : Nat} {ls : Lo} {st : List Va} {σ : Sg} {Q : Rs → Sg → Prop} : Wx d 129 265 ls st σ Q ↔ Lr (lget ls 2) (fun z => Wx d 129 266 ls (.inr (.inl z) :: st) σ Q) := u_aload_n d129_265
theorem d129_266 : decode (mB 129) 266 = .ok (.invokevirtual 72, 3) := by decide +kernel
theorem u129_266 {d : Nat} {ls : Lo} {st : List Va} {σ : Sg} {Q : Rs → Sg → Prop} {g j : Nat} : Wx (d + 1) 129 266 ls (vr g j :: st) σ Q ↔ (isO g j 7 ∧ st.length ≤ 4 ∧ nlg [] = true) ∧ Wm d 74 [vr g j] σ (Kc (d + 1) 129 269 ls st Q) := u_inv0 d129_266 rfl rfl rfl
theorem d129_269 : decode (mB 129) 269 = .ok (.iload 5, 2) := by decide +kernel
theorem u129_269 {d : Nat} {ls : Lo} {st : List Va} {σ : Sg} {Q : Rs → Sg → Prop} : Wx d 129 269 ls st σ Q ↔ Li (lget ls 5) (fun z => Wx d 129 271 ls (vi z :: st) σ Q) := u_iload d129_269
theorem d129_271 : decode (mB 129) 271 = .ok (.if_icmp .eq 5, 3) := by decide +kernel
theorem u129_271 {d : Nat} {ls : Lo} {st : List Va} {σ : Sg} {Q : Rs → Sg → Prop} {a b : Int} (h : -2147483648 ≤ a ∧ a ≤ 2147483647) (h2 : -2147483648 ≤ b ∧ b ≤ 2147483647) : Wx d 129 271 ls (vi b :: vi a :: st) σ Q ↔ if a = b then Wx d 129 276 ls st σ Q else Wx d 129 274 ls st σ Q := u_iceq d129_271 (by decide) h h2
theorem d129_274 : decode (mB 129) 274 = .ok (.iconst 0, 1) := by decide +kernel
theorem u129_274 {d : Nat} {ls : Lo} {st : List Va} {σ : Sg} {Q : Rs → Sg → Prop} : Wx d 129 274 ls st σ Q ↔ Wx d 129 275 ls (vi 0 :: st) σ Q := u_iconst d129_274
theorem d129_275 : decode (mB 129) 275 = .ok (.ireturn, 1) := by decide +kernel
theorem u129_275 {d : Nat} {ls : Lo} {σ : Sg} {Q : Rs → Sg → Prop} {z : Int} (h : z = 0 ∨ z = 1) : Wx d 129 275 ls [vi z] σ Q ↔ Q (.inl (some (vi z))) σ := u_zret d129_275 rfl h
theorem d129_276 : decode (mB 129) 276 = .ok (.iload 5, 2) := by decide +kernel
theorem u129_276 {d : Nat} {ls : Lo} {st : List Va} {σ : Sg} {Q : Rs → Sg → Prop} : Wx d 129 276 ls st σ Q ↔ Li (lget ls 5) (fun z => Wx d 129 278 ls (vi z :: st) σ Q) := u_iload d129_276
theorem d129_278 : decode (mB 129) 278 = .ok (.ifCond .ne 15, 3) := by decide +kernel
theorem u129_278 {d : Nat} {ls : Lo} {st : List Va} {σ : Sg} {Q : Rs → Sg → Prop} {a : Int} (h : -2147483648 ≤ a ∧ a ≤ 2147483647) : Wx d 129 278 ls (vi a :: st) σ Q ↔ if ¬ a = 0 then Wx d 129 293 ls st σ Q else Wx d 129 281 ls st σ Q := u_ifne d129_278 (by decide) h
theorem d129_281 : decode (mB 129) 281 = .ok (.aload_n 3, 1) := by decide +kernel
theorem u129_281 {d : Nat} {ls : Lo} {st : List Va} {σ : Sg} {Q : Rs → Sg → Prop} : Wx d 129 281 ls st σ Q ↔ Lr (lget ls 3) (fun z => Wx d 129 282 ls (.inr (.inl z) :: st) σ Q) := u_aload_n d129_281
theorem d129_282 : decode (mB 129) 282 = .ok (.iconst 0, 1) := by decide +kernel
theorem u129_282 {d : Nat} {ls : Lo} {st : List Va} {σ : Sg} {Q : Rs → Sg → Prop} : Wx d 129 282 ls st σ Q ↔ Wx d 129 283 ls (vi 0 :: st) σ Q := u_iconst d129_282
theorem d129_283 : decode (mB 129) 283 = .ok (.laload, 1) := by decide +kernel
theorem u129_283 {d : Nat} {ls : Lo} {st : List Va} {σ : Sg} {Q : Rs → Sg → Prop} {z : Int} {g j : Nat} : Wx d 129 283 ls (vi z :: vr g j :: st) σ Q ↔ isA g j 4 z ∧ Wx d 129 284 ls (vl (σ g j z.toNat) :: st) σ Q := u_lald d129_283
theorem d129_284 : decode (mB 129) 284 = .ok (.iload 6, 2) := by decide +kernel
theorem u129_284 {d : Nat} {ls : Lo} {st : List Va} {σ : Sg} {Q : Rs → Sg → Prop} : Wx d 129 284 ls st σ Q ↔ Li (lget ls 6) (fun z => Wx d 129 286 ls (vi z :: st) σ Q) := u_iload d129_284
theorem d129_286 : decode (mB 129) 286 = .ok (.i2l, 1) := by decide +kernel
theorem u129_286 {d : Nat} {ls : Lo} {st : List Va} {σ : Sg} {Q : Rs → Sg → Prop} {a : Int} (h : -2147483648 ≤ a ∧ a ≤ 2147483647) : Wx d 129 286 ls (vi a :: st) σ Q ↔ Wx d 129 287 ls (vl a :: st) σ Q := u_i2l d129_286 h
theorem d129_287 : decode (mB 129) 287 = .ok (.lcmp, 1) := by decide +kernel
theorem u129_287 {d : Nat} {ls : Lo} {st : List Va} {σ : Sg} {Q : Rs → Sg → Prop} {a b : Int} : Wx d 129 287 ls (vl b :: vl a :: st) σ Q ↔ Wx d 129 288 ls (vi (lg_cmp (i6 a) (i6 b)).toInt :: st) σ Q := u_lcmp d129_287
theorem d129_288 : decode (mB 129) 288 = .ok (.ifCond .eq 5, 3) := by decide +kernel
theorem u129_288 {d : Nat} {ls : Lo} {st : List Va} {σ : Sg} {Q : Rs → Sg → Prop} {a : Int} (h : -2147483648 ≤ a ∧ a ≤ 2147483647) : Wx d 129 288 ls (vi a :: st) σ Q ↔ if a = 0 then Wx d 129 293 ls st σ Q else Wx d 129 291 ls st σ Q := u_ifeq d129_288 (by decide) h
theorem d129_291 : decode (mB 129) 291 = .ok (.iconst 0, 1) := by decide +kernel
theorem u129_291 {d : Nat} {ls : Lo} {st : List Va} {σ : Sg} {Q : Rs → Sg → Prop} : Wx d 129 291 ls st σ Q ↔ Wx d 129 292 ls (vi 0 :: st) σ Q := u_iconst d129_291
theorem d129_292 : decode (mB 129) 292 = .ok (.ireturn, 1) := by decide +kernel
theorem u129_292 {d : Nat} {ls : Lo} {σ : Sg} {Q : Rs → Sg → Prop} {z : Int} (h : z = 0 ∨ z = 1) : Wx d 129 292 ls [vi z] σ Q ↔ Q (.inl (some (vi z))) σ := u_zret d129_292 rfl h
theorem d129_293 : decode (mB 129) 293 = .ok (.goto 627, 3) := by decide +kernel
theorem u129_293 {d : Nat} {ls : Lo} {st : List Va} {σ : Sg} {Q : Rs → Sg → Prop} : Wx d 129 293 ls st σ Q ↔ Wx d 129 920 ls st σ Q := u_goto d129_293 (by decide)
theorem d129_296 : decode (mB 129) 296 = .ok (.aload_n 1, 1) := by decide +kernel
theorem u129_296 {d : Nat} {ls : Lo} {st : List Va} {σ : Sg} {Q : Rs → Sg → Prop} : Wx d 129 296 ls st σ Q ↔ Lr (lget ls 1) (fun z => Wx d 129 297 ls (.inr (.inl z) :: st) σ Q) := u_aload_n d129_296
theorem d129_297 : decode (mB 129) 297 = .ok (.aload_n 0, 1) := by decide +kernel
theorem u129_297 {d : Nat} {ls : Lo} {st : List Va} {σ : Sg} {Q : Rs → Sg → Prop} : Wx d 129 297 ls st σ Q ↔ Lr (lget ls 0) (fun z => Wx d 129 298 ls (.inr (.inl z) :: st) σ Q) := u_aload_n d129_297
theorem d129_298 : decode (mB 129) 298 = .ok (.iload 4, 2) := by decide +kernel
theorem u129_298 {d : Nat} {ls : Lo} {st : List Va} {σ : Sg} {Q : Rs → Sg → Prop} : Wx d 129 298 ls st σ Q ↔ Li (lget ls 4) (fun z => Wx d 129 300 ls (vi z :: st) σ Q) := u_iload d129_298
theorem d129_300 : decode (mB 129) 300 = .ok (.iconst 1, 1) := by decide +kernel
theorem u129_300 {d : Nat} {ls : Lo} {st : List Va} {σ : Sg} {Q : Rs → Sg → Prop} : Wx d 129 300 ls st σ Q ↔ Wx d 129 301 ls (vi 1 :: st) σ Q := u_iconst d129_300
theorem d129_301 : decode (mB 129) 301 = .ok (.iadd, 1) := by decide +kernel
theorem u129_301 {d : Nat} {ls : Lo} {st : List Va} {σ : Sg} {Q : Rs → Sg → Prop} {a b : Int} : Wx d 129 301 ls (vi b :: vi a :: st) σ Q ↔ Wx d 129 302 ls (vi (a + b) :: st) σ Q := u_iadd d129_301
theorem d129_302 : decode (mB 129) 302 = .ok (.iaload, 1) := by decide +kernel
theorem u129_302 {d : Nat} {ls : Lo} {st : List Va} {σ : Sg} {Q : Rs → Sg → Prop} {z : Int} {g j : Nat} : Wx d 129 302 ls (vi z :: vr g j :: st) σ Q ↔ On (ial σ g j z) (fun x => Wx d 129 303 ls (vi x :: st) σ Q) := u_iald d129_302
theorem d129_303 : decode (mB 129) 303 = .ok (.aload_n 0, 1) := by decide +kernel
theorem u129_303 {d : Nat} {ls : Lo} {st : List Va} {σ : Sg} {Q : Rs → Sg → Prop} : Wx d 129 303 ls st σ Q ↔ Lr (lget ls 0) (fun z => Wx d 129 304 ls (.inr (.inl z) :: st) σ Q) := u_aload_n d129_303
theorem d129_304 : decode (mB 129) 304 = .ok (.iload 4, 2) := by decide +kernel
theorem u129_304 {d : Nat} {ls : Lo} {st : List Va} {σ : Sg} {Q : Rs → Sg → Prop} : Wx d 129 304 ls st σ Q ↔ Li (lget ls 4) (fun z => Wx d 129 306 ls (vi z :: st) σ Q) := u_iload d129_304
theorem d129_306 : decode (mB 129) 306 = .ok (.iconst 2, 1) := by decide +kernel
theorem u129_306 {d : Nat} {ls : Lo} {st : List Va} {σ : Sg} {Q : Rs → Sg → Prop} : Wx d 129 306 ls st σ Q ↔ Wx d 129 307 ls (vi 2 :: st) σ Q := u_iconst d129_306
theorem d129_307 : decode (mB 129) 307 = .ok (.iadd, 1) := by decide +kernel
theorem u129_307 {d : Nat} {ls : Lo} {st : List Va} {σ : Sg} {Q : Rs → Sg → Prop} {a b : Int} : Wx d 129 307 ls (vi b :: vi a :: st) σ Q ↔ Wx d 129 308 ls (vi (a + b) :: st) σ Q := u_iadd d129_307
theorem d129_308 : decode (mB 129) 308 = .ok (.iaload, 1) := by decide +kernel
theorem u129_308 {d : Nat} {ls : Lo} {st : List Va} {σ : Sg} {Q : Rs → Sg → Prop} {z : Int} {g j : Nat} : Wx d 129 308 ls (vi z :: vr g j :: st) σ Q ↔ On (ial σ g j z) (fun x => Wx d 129 309 ls (vi x :: st) σ Q) := u_iald d129_308
theorem d129_309 : decode (mB 129) 309 = .ok (.aload_n 0, 1) := by decide +kernel
theorem u129_309 {d : Nat} {ls : Lo} {st : List Va} {σ : Sg} {Q : Rs → Sg → Prop} : Wx d 129 309 ls st σ Q ↔ Lr (lget ls 0) (fun z => Wx d 129 310 ls (.inr (.inl z) :: st) σ Q) := u_aload_n d129_309
theorem d129_310 : decode (mB 129) 310 = .ok (.iload 4, 2) := by decide +kernel
theorem u129_310 {d : Nat} {ls : Lo} {st : List Va} {σ : Sg} {Q : Rs → Sg → Prop} : Wx d 129 310 ls st σ Q ↔ Li (lget ls 4) (fun z => Wx d 129 312 ls (vi z :: st) σ Q) := u_iload d129_310
theorem d129_312 : decode (mB 129) 312 = .ok (.iconst 3, 1) := by decide +kernel
theorem u129_312 {d : Nat} {ls : Lo} {st : List Va} {σ : Sg} {Q : Rs → Sg → Prop} : Wx d 129 312 ls st σ Q ↔ Wx d 129 313 ls (vi 3 :: st) σ Q := u_iconst d129_312
theorem d129_313 : decode (mB 129) 313 = .ok (.iadd, 1) := by decide +kernel
theorem u129_313 {d : Nat} {ls : Lo} {st : List Va} {σ : Sg} {Q : Rs → Sg → Prop} {a b : Int} : Wx d 129 313 ls (vi b :: vi a :: st) σ Q ↔ Wx d 129 314 ls (vi (a + b) :: st) σ Q := u_iadd d129_313
theorem d129_314 : decode (mB 129) 314 = .ok (.iaload, 1) := by decide +kernel
theorem u129_314 {d : Nat} {ls : Lo} {st : List Va} {σ : Sg} {Q : Rs → Sg → Prop} {z : Int} {g j : Nat} : Wx d 129 314 ls (vi z :: vr g j :: st) σ Q ↔ On (ial σ g j z) (fun x => Wx d 129 315 ls (vi x :: st) σ Q) := u_iald d129_314
theorem d129_315 : decode (mB 129) 315 = .ok (.aload_n 3, 1) := by decide +kernel
theorem u129_315 {d : Nat} {ls : Lo} {st : List Va} {σ : Sg} {Q : Rs → Sg → Prop} : Wx d 129 315 ls st σ Q ↔ Lr (lget ls 3) (fun z => Wx d 129 316 ls (.inr (.inl z) :: st) σ Q) := u_aload_n d129_315
theorem d129_316 : decode (mB 129) 316 = .ok (.invokestatic 83, 3) := by decide +kernel
theorem u129_316 {d : Nat} {ls : Lo} {st : List Va} {σ : Sg} {Q : Rs → Sg → Prop} {a1 a2 a3 a4 a5 : Va} : Wx (d + 1) 129 316 ls (a5 :: a4 :: a3 :: a2 :: a1 :: st) σ Q ↔ (st.length ≤ 4 ∧ nlg [a5, a4, a3, a2, a1] = true) ∧ Wm d 133 [a1, a2, a3, a4, a5] σ (Kc (d + 1) 129 319 ls st Q) := u_hlp5 d129_316 rfl rfl rfl rfl
theorem d129_319 : decode (mB 129) 319 = .ok (.istore 5, 2) := by decide +kernel
theorem u129_319 {d : Nat} {ls : Lo} {st : List Va} {σ : Sg} {Q : Rs → Sg → Prop} {z : Int} : Wx d 129 319 ls (vi z :: st) σ Q ↔ Wx d 129 321 (lset ls 5 (vi z)) st σ Q := u_istore d129_319 (by decide)
theorem d129_321 : decode (mB 129) 321 = .ok (.aload_n 2, 1) := by decide +kernel
theorem u129_321 {d : Nat} {ls : Lo} {st : List Va} {σ : Sg} {Q : Rs → Sg → Prop} : Wx d 129 321 ls st σ Q ↔ Lr (lget ls 2) (fun z => Wx d 129 322 ls (.inr (.inl z) :: st) σ Q) := u_aload_n d129_321
theorem d129_322 : decode (mB 129) 322 = .ok (.aload_n 0, 1) := by decide +kernel
theorem u129_322 {d : Nat} {ls : Lo} {st : List Va} {σ : Sg} {Q : Rs → Sg → Prop} : Wx d 129 322 ls st σ Q ↔ Lr (lget ls 0) (fun z => Wx d 129 323 ls (.inr (.inl z) :: st) σ Q) := u_aload_n d129_322
theorem d129_323 : decode (mB 129) 323 = .ok (.iload 4, 2) := by decide +kernel
theorem u129_323 {d : Nat} {ls : Lo} {st : List Va} {σ : Sg} {Q : Rs → Sg → Prop} : Wx d 129 323 ls st σ Q ↔ Li (lget ls 4) (fun z => Wx d 129 325 ls (vi z :: st) σ Q) := u_iload d129_323
theorem d129_325 : decode (mB 129) 325 = .ok (.iconst 1, 1) := by decide +kernel
theorem u129_325 {d : Nat} {ls : Lo} {st : List Va} {σ : Sg} {Q : Rs → Sg → Prop} : Wx d 129 325 ls st σ Q ↔ Wx d 129 326 ls (vi 1 :: st) σ Q := u_iconst d129_325
theorem d129_326 : decode (mB 129) 326 = .ok (.iadd, 1) := by decide +kernel
theorem u129_326 {d : Nat} {ls : Lo} {st : List Va} {σ : Sg} {Q : Rs → Sg → Prop} {a b : Int} : Wx d 129 326 ls (vi b :: vi a :: st) σ Q ↔ Wx d 129 327 ls (vi (a + b) :: st) σ Q := u_iadd d129_326
theorem d129_327 : decode (mB 129) 327 = .ok (.iaload, 1) := by decide +kernel
theorem u129_327 {d : Nat} {ls : Lo} {st : List Va} {σ : Sg} {Q : Rs → Sg → Prop} {z : Int} {g j : Nat} : Wx d 129 327 ls (vi z :: vr g j :: st) σ Q ↔ On (ial σ g j z) (fun x => Wx d 129 328 ls (vi x :: st) σ Q) := u_iald d129_327
theorem d129_328 : decode (mB 129) 328 = .ok (.aload_n 0, 1) := by decide +kernel
theorem u129_328 {d : Nat} {ls : Lo} {st : List Va} {σ : Sg} {Q : Rs → Sg → Prop} : Wx d 129 328 ls st σ Q ↔ Lr (lget ls 0) (fun z => Wx d 129 329 ls (.inr (.inl z) :: st) σ Q) := u_aload_n d129_328
theorem d129_329 : decode (mB 129) 329 = .ok (.iload 4, 2) := by decide +kernel
theorem u129_329 {d : Nat} {ls : Lo} {st : List Va} {σ : Sg} {Q : Rs → Sg → Prop} : Wx d 129 329 ls st σ Q ↔ Li (lget ls 4) (fun z => Wx d 129 331 ls (vi z :: st) σ Q) := u_iload d129_329
theorem d129_331 : decode (mB 129) 331 = .ok (.iconst 2, 1) := by decide +kernel
theorem u129_331 {d : Nat} {ls : Lo} {st : List Va} {σ : Sg} {Q : Rs → Sg → Prop} : Wx d 129 331 ls st σ Q ↔ Wx d 129 332 ls (vi 2 :: st) σ Q := u_iconst d129_331
theorem d129_332 : decode (mB 129) 332 = .ok (.iadd, 1) := by decide +kernel
theorem u129_332 {d : Nat} {ls : Lo} {st : List Va} {σ : Sg} {Q : Rs → Sg → Prop} {a b : Int} : Wx d 129 332 ls (vi b :: vi a :: st) σ Q ↔ Wx d 129 333 ls (vi (a + b) :: st) σ Q := u_iadd d129_332
theorem d129_333 : decode (mB 129) 333 = .ok (.iaload, 1) := by decide +kernel
theorem u129_333 {d : Nat} {ls : Lo} {st : List Va} {σ : Sg} {Q : Rs → Sg → Prop} {z : Int} {g j : Nat} : Wx d 129 333 ls (vi z :: vr g j :: st) σ Q ↔ On (ial σ g j z) (fun x => Wx d 129 334 ls (vi x :: st) σ Q) := u_iald d129_333
theorem d129_334 : decode (mB 129) 334 = .ok (.aload_n 0, 1) := by decide +kernel
theorem u129_334 {d : Nat} {ls : Lo} {st : List Va} {σ : Sg} {Q : Rs → Sg → Prop} : Wx d 129 334 ls st σ Q ↔ Lr (lget ls 0) (fun z => Wx d 129 335 ls (.inr (.inl z) :: st) σ Q) := u_aload_n d129_334
theorem d129_335 : decode (mB 129) 335 = .ok (.iload 4, 2) := by decide +kernel
theorem u129_335 {d : Nat} {ls : Lo} {st : List Va} {σ : Sg} {Q : Rs → Sg → Prop} : Wx d 129 335 ls st σ Q ↔ Li (lget ls 4) (fun z => Wx d 129 337 ls (vi z :: st) σ Q) := u_iload d129_335
theorem d129_337 : decode (mB 129) 337 = .ok (.iconst 3, 1) := by decide +kernel
theorem u129_337 {d : Nat} {ls : Lo} {st : List Va} {σ : Sg} {Q : Rs → Sg → Prop} : Wx d 129 337 ls st σ Q ↔ Wx d 129 338 ls (vi 3 :: st) σ Q := u_iconst d129_337
theorem d129_338 : decode (mB 129) 338 = .ok (.iadd, 1) := by decide +kernel
theorem u129_338 {d : Nat} {ls : Lo} {st : List Va} {σ : Sg} {Q : Rs → Sg → Prop} {a b : Int} : Wx d 129 338 ls (vi b :: vi a :: st) σ Q ↔ Wx d 129 339 ls (vi (a + b) :: st) σ Q := u_iadd d129_338
theorem d129_339 : decode (mB 129) 339 = .ok (.iaload, 1) := by decide +kernel
theorem u129_339 {d : Nat} {ls : Lo} {st : List Va} {σ : Sg} {Q : Rs → Sg → Prop} {z : Int} {g j : Nat} : Wx d 129 339 ls (vi z :: vr g j :: st) σ Q ↔ On (ial σ g j z) (fun x => Wx d 129 340 ls (vi x :: st) σ Q) := u_iald d129_339
theorem d129_340 : decode (mB 129) 340 = .ok (.invokevirtual 86, 3) := by decide +kernel
theorem u129_340 {d : Nat} {ls : Lo} {st : List Va} {σ : Sg} {Q : Rs → Sg → Prop} {g j : Nat} {a1 a2 a3 : Va} : Wx (d + 1) 129 340 ls (a3 :: a2 :: a1 :: vr g j :: st) σ Q ↔ (isO g j 7 ∧ st.length ≤ 4 ∧ nlg [a3, a2, a1] = true) ∧ Wm d 83 [vr g j, a1, a2, a3] σ (Kc (d + 1) 129 343 ls st Q) := u_inv3 d129_340 rfl rfl rfl
theorem d129_343 : decode (mB 129) 343 = .ok (.istore 6, 2) := by decide +kernel
theorem u129_343 {d : Nat} {ls : Lo} {st : List Va} {σ : Sg} {Q : Rs → Sg → Prop} {z : Int} : Wx d 129 343 ls (vi z :: st) σ Q ↔ Wx d 129 345 (lset ls 6 (vi z)) st σ Q := u_istore d129_343 (by decide)
theorem d129_345 : decode (mB 129) 345 = .ok (.aload_n 2, 1) := by decide +kernel
theorem u129_345 {d : Nat} {ls : Lo} {st : List Va} {σ : Sg} {Q : Rs → Sg → Prop} : Wx d 129 345 ls st σ Q ↔ Lr (lget ls 2) (fun z => Wx d 129 346 ls (.inr (.inl z) :: st) σ Q) := u_aload_n d129_345
theorem d129_346 : decode (mB 129) 346 = .ok (.invokevirtual 72, 3) := by decide +kernel
theorem u129_346 {d : Nat} {ls : Lo} {st : List Va} {σ : Sg} {Q : Rs → Sg → Prop} {g j : Nat} : Wx (d + 1) 129 346 ls (vr g j :: st) σ Q ↔ (isO g j 7 ∧ st.length ≤ 4 ∧ nlg [] = true) ∧ Wm d 74 [vr g j] σ (Kc (d + 1) 129 349 ls st Q) := u_inv0 d129_346 rfl rfl rfl
theorem d129_349 : decode (mB 129) 349 = .ok (.iload 5, 2) := by decide +kernel
theorem u129_349 {d : Nat} {ls : Lo} {st : List Va} {σ : Sg} {Q : Rs → Sg → Prop} : Wx d 129 349 ls st σ Q ↔ Li (lget ls 5) (fun z => Wx d 129 351 ls (vi z :: st) σ Q) := u_iload d129_349
theorem d129_351 : decode (mB 129) 351 = .ok (.if_icmp .eq 5, 3) := by decide +kernel
theorem u129_351 {d : Nat} {ls : Lo} {st : List Va} {σ : Sg} {Q : Rs → Sg → Prop} {a b : Int} (h : -2147483648 ≤ a ∧ a ≤ 2147483647) (h2 : -2147483648 ≤ b ∧ b ≤ 2147483647) : Wx d 129 351 ls (vi b :: vi a :: st) σ Q ↔ if a = b then Wx d 129 356 ls st σ Q else Wx d 129 354 ls st σ Q := u_iceq d129_351 (by decide) h h2
theorem d129_354 : decode (mB 129) 354 = .ok (.iconst 0, 1) := by decide +kernel
theorem u129_354 {d : Nat} {ls : Lo} {st : List Va} {σ : Sg} {Q : Rs → Sg → Prop} : Wx d 129 354 ls st σ Q ↔ Wx d 129 355 ls (vi 0 :: st) σ Q := u_iconst d129_354
theorem d129_355 : decode (mB 129) 355 = .ok (.ireturn, 1) := by decide +kernel
theorem u129_355 {d : Nat} {ls : Lo} {σ : Sg} {Q : Rs → Sg → Prop} {z : Int} (h : z = 0 ∨ z = 1) : Wx d 129 355 ls [vi z] σ Q ↔ Q (.inl (some (vi z))) σ := u_zret d129_355 rfl h
theorem d129_356 : decode (mB 129) 356 = .ok (.iload 5, 2) := by decide +kernel
theorem u129_356 {d : Nat} {ls : Lo} {st : List Va} {σ : Sg} {Q : Rs → Sg → Prop} : Wx d 129 356 ls st σ Q ↔ Li (lget ls 5) (fun z => Wx d 129 358 ls (vi z :: st) σ Q) := u_iload d129_356
theorem d129_358 : decode (mB 129) 358 = .ok (.ifCond .ne 15, 3) := by decide +kernel
theorem u129_358 {d : Nat} {ls : Lo} {st : List Va} {σ : Sg} {Q : Rs → Sg → Prop} {a : Int} (h : -2147483648 ≤ a ∧ a ≤ 2147483647) : Wx d 129 358 ls (vi a :: st) σ Q ↔ if ¬ a = 0 then Wx d 129 373 ls st σ Q else Wx d 129 361 ls st σ Q := u_ifne d129_358 (by decide) h
theorem d129_361 : decode (mB 129) 361 = .ok (.aload_n 3, 1) := by decide +kernel
theorem u129_361 {d : Nat} {ls : Lo} {st : List Va} {σ : Sg} {Q : Rs → Sg → Prop} : Wx d 129 361 ls st σ Q ↔ Lr (lget ls 3) (fun z => Wx d 129 362 ls (.inr (.inl z) :: st) σ Q) := u_aload_n d129_361
theorem d129_362 : decode (mB 129) 362 = .ok (.iconst 0, 1) := by decide +kernel
theorem u129_362 {d : Nat} {ls : Lo} {st : List Va} {σ : Sg} {Q : Rs → Sg → Prop} : Wx d 129 362 ls st σ Q ↔ Wx d 129 363 ls (vi 0 :: st) σ Q := u_iconst d129_362
theorem d129_363 : decode (mB 129) 363 = .ok (.laload, 1) := by decide +kernel
theorem u129_363 {d : Nat} {ls : Lo} {st : List Va} {σ : Sg} {Q : Rs → Sg → Prop} {z : Int} {g j : Nat} : Wx d 129 363 ls (vi z :: vr g j :: st) σ Q ↔ isA g j 4 z ∧ Wx d 129 364 ls (vl (σ g j z.toNat) :: st) σ Q := u_lald d129_363
theorem d129_364 : decode (mB 129) 364 = .ok (.iload 6, 2) := by decide +kernel
theorem u129_364 {d : Nat} {ls : Lo} {st : List Va} {σ : Sg} {Q : Rs → Sg → Prop} : Wx d 129 364 ls st σ Q ↔ Li (lget ls 6) (fun z => Wx d 129 366 ls (vi z :: st) σ Q) := u_iload d129_364
theorem d129_366 : decode (mB 129) 366 = .ok (.i2l, 1) := by decide +kernel
theorem u129_366 {d : Nat} {ls : Lo} {st : List Va} {σ : Sg} {Q : Rs → Sg → Prop} {a : Int} (h : -2147483648 ≤ a ∧ a ≤ 2147483647) : Wx d 129 366 ls (vi a :: st) σ Q ↔ Wx d 129 367 ls (vl a :: st) σ Q := u_i2l d129_366 h
theorem d129_367 : decode (mB 129) 367 = .ok (.lcmp, 1) := by decide +kernel
theorem u129_367 {d : Nat} {ls : Lo} {st : List Va} {σ : Sg} {Q : Rs → Sg → Prop} {a b : Int} : Wx d 129 367 ls (vl b :: vl a :: st) σ Q ↔ Wx d 129 368 ls (vi (lg_cmp (i6 a) (i6 b)).toInt :: st) σ Q := u_lcmp d129_367
theorem d129_368 : decode (mB 129) 368 = .ok (.ifCond .eq 5, 3) := by decide +kernel
theorem u129_368 {d : Nat} {ls : Lo} {st : List Va} {σ : Sg} {Q : Rs → Sg → Prop} {a : Int} (h : -2147483648 ≤ a ∧ a ≤ 2147483647) : Wx d 129 368 ls (vi a :: st) σ Q ↔ if a = 0 then Wx d 129 373 ls st σ Q else Wx d 129 371 ls st σ Q := u_ifeq d129_368 (by decide) h
theorem d129_371 : decode (mB 129) 371 = .ok (.iconst 0, 1) := by decide +kernel
theorem u129_371 {d : Nat} {ls : Lo} {st : List Va} {σ : Sg} {Q : Rs → Sg → Prop} : Wx d 129 371 ls st σ Q ↔ Wx d 129 372 ls (vi 0 :: st) σ Q := u_iconst d129_371
theorem d129_372 : decode (mB 129) 372 = .ok (.ireturn, 1) := by decide +kernel
theorem u129_372 {d : Nat} {ls : Lo} {σ : Sg} {Q : Rs → Sg → Prop} {z : Int} (h : z = 0 ∨ z = 1) : Wx d 129 372 ls [vi z] σ Q ↔ Q (.inl (some (vi z))) σ := u_zret d129_372 rfl h
theorem d129_373 : decode (mB 129) 373 = .ok (.goto 547, 3) := by decide +kernel
theorem u129_373 {d : Nat} {ls : Lo} {st : List Va} {σ : Sg} {Q : Rs → Sg → Prop} : Wx d 129 373 ls st σ Q ↔ Wx d 129 920 ls st σ Q := u_goto d129_373 (by decide)
theorem d129_376 : decode (mB 129) 376 = .ok (.aload_n 1, 1) := by decide +kernel
theorem u129_376 {d : Nat} {ls : Lo} {st : List Va} {σ : Sg} {Q : Rs → Sg → Prop} : Wx d 129 376 ls st σ Q ↔ Lr (lget ls 1) (fun z => Wx d 129 377 ls (.inr (.inl z) :: st) σ Q) := u_aload_n d129_376
theorem d129_377 : decode (mB 129) 377 = .ok (.aload_n 0, 1) := by decide +kernel
theorem u129_377 {d : Nat} {ls : Lo} {st : List Va} {σ : Sg} {Q : Rs → Sg → Prop} : Wx d 129 377 ls st σ Q ↔ Lr (lget ls 0) (fun z => Wx d 129 378 ls (.inr (.inl z) :: st) σ Q) := u_aload_n d129_377
theorem d129_378 : decode (mB 129) 378 = .ok (.iload 4, 2) := by decide +kernel
theorem u129_378 {d : Nat} {ls : Lo} {st : List Va} {σ : Sg} {Q : Rs → Sg → Prop} : Wx d 129 378 ls st σ Q ↔ Li (lget ls 4) (fun z => Wx d 129 380 ls (vi z :: st) σ Q) := u_iload d129_378
theorem d129_380 : decode (mB 129) 380 = .ok (.iconst 1, 1) := by decide +kernel
theorem u129_380 {d : Nat} {ls : Lo} {st : List Va} {σ : Sg} {Q : Rs → Sg → Prop} : Wx d 129 380 ls st σ Q ↔ Wx d 129 381 ls (vi 1 :: st) σ Q := u_iconst d129_380
theorem d129_381 : decode (mB 129) 381 = .ok (.iadd, 1) := by decide +kernel
theorem u129_381 {d : Nat} {ls : Lo} {st : List Va} {σ : Sg} {Q : Rs → Sg → Prop} {a b : Int} : Wx d 129 381 ls (vi b :: vi a :: st) σ Q ↔ Wx d 129 382 ls (vi (a + b) :: st) σ Q := u_iadd d129_381
theorem d129_382 : decode (mB 129) 382 = .ok (.iaload, 1) := by decide +kernel
theorem u129_382 {d : Nat} {ls : Lo} {st : List Va} {σ : Sg} {Q : Rs → Sg → Prop} {z : Int} {g j : Nat} : Wx d 129 382 ls (vi z :: vr g j :: st) σ Q ↔ On (ial σ g j z) (fun x => Wx d 129 383 ls (vi x :: st) σ Q) := u_iald d129_382
theorem d129_383 : decode (mB 129) 383 = .ok (.aload_n 0, 1) := by decide +kernel
theorem u129_383 {d : Nat} {ls : Lo} {st : List Va} {σ : Sg} {Q : Rs → Sg → Prop} : Wx d 129 383 ls st σ Q ↔ Lr (lget ls 0) (fun z => Wx d 129 384 ls (.inr (.inl z) :: st) σ Q) := u_aload_n d129_383
theorem d129_384 : decode (mB 129) 384 = .ok (.iload 4, 2) := by decide +kernel
theorem u129_384 {d : Nat} {ls : Lo} {st : List Va} {σ : Sg} {Q : Rs → Sg → Prop} : Wx d 129 384 ls st σ Q ↔ Li (lget ls 4) (fun z => Wx d 129 386 ls (vi z :: st) σ Q) := u_iload d129_384
theorem d129_386 : decode (mB 129) 386 = .ok (.iconst 2, 1) := by decide +kernel
theorem u129_386 {d : Nat} {ls : Lo} {st : List Va} {σ : Sg} {Q : Rs → Sg → Prop} : Wx d 129 386 ls st σ Q ↔ Wx d 129 387 ls (vi 2 :: st) σ Q := u_iconst d129_386
theorem d129_387 : decode (mB 129) 387 = .ok (.iadd, 1) := by decide +kernel
theorem u129_387 {d : Nat} {ls : Lo} {st : List Va} {σ : Sg} {Q : Rs → Sg → Prop} {a b : Int} : Wx d 129 387 ls (vi b :: vi a :: st) σ Q ↔ Wx d 129 388 ls (vi (a + b) :: st) σ Q := u_iadd d129_387
theorem d129_388 : decode (mB 129) 388 = .ok (.iaload, 1) := by decide +kernel
theorem u129_388 {d : Nat} {ls : Lo} {st : List Va} {σ : Sg} {Q : Rs → Sg → Prop} {z : Int} {g j : Nat} : Wx d 129 388 ls (vi z :: vr g j :: st) σ Q ↔ On (ial σ g j z) (fun x => Wx d 129 389 ls (vi x :: st) σ Q) := u_iald d129_388
theorem d129_389 : decode (mB 129) 389 = .ok (.aload_n 3, 1) := by decide +kernel
theorem u129_389 {d : Nat} {ls : Lo} {st : List Va} {σ : Sg} {Q : Rs → Sg → Prop} : Wx d 129 389 ls st σ Q ↔ Lr (lget ls 3) (fun z => Wx d 129 390 ls (.inr (.inl z) :: st) σ Q) := u_aload_n d129_389
theorem d129_390 : decode (mB 129) 390 = .ok (.invokestatic 87, 3) := by decide +kernel
theorem u129_390 {d : Nat} {ls : Lo} {st : List Va} {σ : Sg} {Q : Rs → Sg → Prop} {a1 a2 a3 a4 : Va} : Wx (d + 1) 129 390 ls (a4 :: a3 :: a2 :: a1 :: st) σ Q ↔ (st.length ≤ 4 ∧ nlg [a4, a3, a2, a1] = true) ∧ Wm d 134 [a1, a2, a3, a4] σ (Kc (d + 1) 129 393 ls st Q) := u_hlp4 d129_390 rfl rfl rfl rfl
theorem d129_393 : decode (mB 129) 393 = .ok (.istore 5, 2) := by decide +kernel
theorem u129_393 {d : Nat} {ls : Lo} {st : List Va} {σ : Sg} {Q : Rs → Sg → Prop} {z : Int} : Wx d 129 393 ls (vi z :: st) σ Q ↔ Wx d 129 395 (lset ls 5 (vi z)) st σ Q := u_istore d129_393 (by decide)
theorem d129_395 : decode (mB 129) 395 = .ok (.aload_n 2, 1) := by decide +kernel
theorem u129_395 {d : Nat} {ls : Lo} {st : List Va} {σ : Sg} {Q : Rs → Sg → Prop} : Wx d 129 395 ls st σ Q ↔ Lr (lget ls 2) (fun z => Wx d 129 396 ls (.inr (.inl z) :: st) σ Q) := u_aload_n d129_395
theorem d129_396 : decode (mB 129) 396 = .ok (.aload_n 0, 1) := by decide +kernel
theorem u129_396 {d : Nat} {ls : Lo} {st : List Va} {σ : Sg} {Q : Rs → Sg → Prop} : Wx d 129 396 ls st σ Q ↔ Lr (lget ls 0) (fun z => Wx d 129 397 ls (.inr (.inl z) :: st) σ Q) := u_aload_n d129_396
theorem d129_397 : decode (mB 129) 397 = .ok (.iload 4, 2) := by decide +kernel
theorem u129_397 {d : Nat} {ls : Lo} {st : List Va} {σ : Sg} {Q : Rs → Sg → Prop} : Wx d 129 397 ls st σ Q ↔ Li (lget ls 4) (fun z => Wx d 129 399 ls (vi z :: st) σ Q) := u_iload d129_397
theorem d129_399 : decode (mB 129) 399 = .ok (.iconst 1, 1) := by decide +kernel
theorem u129_399 {d : Nat} {ls : Lo} {st : List Va} {σ : Sg} {Q : Rs → Sg → Prop} : Wx d 129 399 ls st σ Q ↔ Wx d 129 400 ls (vi 1 :: st) σ Q := u_iconst d129_399
theorem d129_400 : decode (mB 129) 400 = .ok (.iadd, 1) := by decide +kernel
theorem u129_400 {d : Nat} {ls : Lo} {st : List Va} {σ : Sg} {Q : Rs → Sg → Prop} {a b : Int} : Wx d 129 400 ls (vi b :: vi a :: st) σ Q ↔ Wx d 129 401 ls (vi (a + b) :: st) σ Q := u_iadd d129_400
theorem d129_401 : decode (mB 129) 401 = .ok (.iaload, 1) := by decide +kernel
theorem u129_401 {d : Nat} {ls : Lo} {st : List Va} {σ : Sg} {Q : Rs → Sg → Prop} {z : Int} {g j : Nat} : Wx d 129 401 ls (vi z :: vr g j :: st) σ Q ↔ On (ial σ g j z) (fun x => Wx d 129 402 ls (vi x :: st) σ Q) := u_iald d129_401
theorem d129_402 : decode (mB 129) 402 = .ok (.aload_n 0, 1) := by decide +kernel
theorem u129_402 {d : Nat} {ls : Lo} {st : List Va} {σ : Sg} {Q : Rs → Sg → Prop} : Wx d 129 402 ls st σ Q ↔ Lr (lget ls 0) (fun z => Wx d 129 403 ls (.inr (.inl z) :: st) σ Q) := u_aload_n d129_402
theorem d129_403 : decode (mB 129) 403 = .ok (.iload 4, 2) := by decide +kernel
theorem u129_403 {d : Nat} {ls : Lo} {st : List Va} {σ : Sg} {Q : Rs → Sg → Prop} : Wx d 129 403 ls st σ Q ↔ Li (lget ls 4) (fun z => Wx d 129 405 ls (vi z :: st) σ Q) := u_iload d129_403
theorem d129_405 : decode (mB 129) 405 = .ok (.iconst 2, 1) := by decide +kernel
theorem u129_405 {d : Nat} {ls : Lo} {st : List Va} {σ : Sg} {Q : Rs → Sg → Prop} : Wx d 129 405 ls st σ Q ↔ Wx d 129 406 ls (vi 2 :: st) σ Q := u_iconst d129_405
theorem d129_406 : decode (mB 129) 406 = .ok (.iadd, 1) := by decide +kernel
theorem u129_406 {d : Nat} {ls : Lo} {st : List Va} {σ : Sg} {Q : Rs → Sg → Prop} {a b : Int} : Wx d 129 406 ls (vi b :: vi a :: st) σ Q ↔ Wx d 129 407 ls (vi (a + b) :: st) σ Q := u_iadd d129_406
theorem d129_407 : decode (mB 129) 407 = .ok (.iaload, 1) := by decide +kernel
theorem u129_407 {d : Nat} {ls : Lo} {st : List Va} {σ : Sg} {Q : Rs → Sg → Prop} {z : Int} {g j : Nat} : Wx d 129 407 ls (vi z :: vr g j :: st) σ Q ↔ On (ial σ g j z) (fun x => Wx d 129 408 ls (vi x :: st) σ Q) := u_iald d129_407
theorem d129_408 : decode (mB 129) 408 = .ok (.invokevirtual 90, 3) := by decide +kernel
theorem u129_408 {d : Nat} {ls : Lo} {st : List Va} {σ : Sg} {Q : Rs → Sg → Prop} {g j : Nat} {a1 a2 : Va} : Wx (d + 1) 129 408 ls (a2 :: a1 :: vr g j :: st) σ Q ↔ (isO g j 7 ∧ st.length ≤ 4 ∧ nlg [a2, a1] = true) ∧ Wm d 93 [vr g j, a1, a2] σ (Kc (d + 1) 129 411 ls st Q) := u_inv2 d129_408 rfl rfl rfl
theorem d129_411 : decode (mB 129) 411 = .ok (.istore 6, 2) := by decide +kernel
theorem u129_411 {d : Nat} {ls : Lo} {st : List Va} {σ : Sg} {Q : Rs → Sg → Prop} {z : Int} : Wx d 129 411 ls (vi z :: st) σ Q ↔ Wx d 129 413 (lset ls 6 (vi z)) st σ Q := u_istore d129_411 (by decide)
theorem d129_413 : decode (mB 129) 413 = .ok (.aload_n 2, 1) := by decide +kernel
theorem u129_413 {d : Nat} {ls : Lo} {st : List Va} {σ : Sg} {Q : Rs → Sg → Prop} : Wx d 129 413 ls st σ Q ↔ Lr (lget ls 2) (fun z => Wx d 129 414 ls (.inr (.inl z) :: st) σ Q) := u_aload_n d129_413
theorem d129_414 : decode (mB 129) 414 = .ok (.invokevirtual 72, 3) := by decide +kernel
theorem u129_414 {d : Nat} {ls : Lo} {st : List Va} {σ : Sg} {Q : Rs → Sg → Prop} {g j : Nat} : Wx (d + 1) 129 414 ls (vr g j :: st) σ Q ↔ (isO g j 7 ∧ st.length ≤ 4 ∧ nlg [] = true) ∧ Wm d 74 [vr g j] σ (Kc (d + 1) 129 417 ls st Q) := u_inv0 d129_414 rfl rfl rfl
theorem d129_417 : decode (mB 129) 417 = .ok (.iload 5, 2) := by decide +kernel
theorem u129_417 {d : Nat} {ls : Lo} {st : List Va} {σ : Sg} {Q : Rs → Sg → Prop} : Wx d 129 417 ls st σ Q ↔ Li (lget ls 5) (fun z => Wx d 129 419 ls (vi z :: st) σ Q) := u_iload d129_417
theorem d129_419 : decode (mB 129) 419 = .ok (.if_icmp .eq 5, 3) := by decide +kernel
theorem u129_419 {d : Nat} {ls : Lo} {st : List Va} {σ : Sg} {Q : Rs → Sg → Prop} {a b : Int} (h : -2147483648 ≤ a ∧ a ≤ 2147483647) (h2 : -2147483648 ≤ b ∧ b ≤ 2147483647) : Wx d 129 419 ls (vi b :: vi a :: st) σ Q ↔ if a = b then Wx d 129 424 ls st σ Q else Wx d 129 422 ls st σ Q := u_iceq d129_419 (by decide) h h2
theorem d129_422 : decode (mB 129) 422 = .ok (.iconst 0, 1) := by decide +kernel
theorem u129_422 {d : Nat} {ls : Lo} {st : List Va} {σ : Sg} {Q : Rs → Sg → Prop} : Wx d 129 422 ls st σ Q ↔ Wx d 129 423 ls (vi 0 :: st) σ Q := u_iconst d129_422
theorem d129_423 : decode (mB 129) 423 = .ok (.ireturn, 1) := by decide +kernel
theorem u129_423 {d : Nat} {ls : Lo} {σ : Sg} {Q : Rs → Sg → Prop} {z : Int} (h : z = 0 ∨ z = 1) : Wx d 129 423 ls [vi z] σ Q ↔ Q (.inl (some (vi z))) σ := u_zret d129_423 rfl h
theorem d129_424 : decode (mB 129) 424 = .ok (.iload 5, 2) := by decide +kernel
theorem u129_424 {d : Nat} {ls : Lo} {st : List Va} {σ : Sg} {Q : Rs → Sg → Prop} : Wx d 129 424 ls st σ Q ↔ Li (lget ls 5) (fun z => Wx d 129 426 ls (vi z :: st) σ Q) := u_iload d129_424
theorem d129_426 : decode (mB 129) 426 = .ok (.ifCond .ne 15, 3) := by decide +kernel
theorem u129_426 {d : Nat} {ls : Lo} {st : List Va} {σ : Sg} {Q : Rs → Sg → Prop} {a : Int} (h : -2147483648 ≤ a ∧ a ≤ 2147483647) : Wx d 129 426 ls (vi a :: st) σ Q ↔ if ¬ a = 0 then Wx d 129 441 ls st σ Q else Wx d 129 429 ls st σ Q := u_ifne d129_426 (by decide) h
theorem d129_429 : decode (mB 129) 429 = .ok (.aload_n 3, 1) := by decide +kernel
theorem u129_429 {d : Nat} {ls : Lo} {st : List Va} {σ : Sg} {Q : Rs → Sg → Prop} : Wx d 129 429 ls st σ Q ↔ Lr (lget ls 3) (fun z => Wx d 129 430 ls (.inr (.inl z) :: st) σ Q) := u_aload_n d129_429
theorem d129_430 : decode (mB 129) 430 = .ok (.iconst 0, 1) := by decide +kernel
theorem u129_430 {d : Nat} {ls : Lo} {st : List Va} {σ : Sg} {Q : Rs → Sg → Prop} : Wx d 129 430 ls st σ Q ↔ Wx d 129 431 ls (vi 0 :: st) σ Q := u_iconst d129_430
theorem d129_431 : decode (mB 129) 431 = .ok (.laload, 1) := by decide +kernel
theorem u129_431 {d : Nat} {ls : Lo} {st : List Va} {σ : Sg} {Q : Rs → Sg → Prop} {z : Int} {g j : Nat} : Wx d 129 431 ls (vi z :: vr g j :: st) σ Q ↔ isA g j 4 z ∧ Wx d 129 432 ls (vl (σ g j z.toNat) :: st) σ Q := u_lald d129_431
theorem d129_432 : decode (mB 129) 432 = .ok (.iload 6, 2) := by decide +kernel
theorem u129_432 {d : Nat} {ls : Lo} {st : List Va} {σ : Sg} {Q : Rs → Sg → Prop} : Wx d 129 432 ls st σ Q ↔ Li (lget ls 6) (fun z => Wx d 129 434 ls (vi z :: st) σ Q) := u_iload d129_432
theorem d129_434 : decode (mB 129) 434 = .ok (.i2l, 1) := by decide +kernel
theorem u129_434 {d : Nat} {ls : Lo} {st : List Va} {σ : Sg} {Q : Rs → Sg → Prop} {a : Int} (h : -2147483648 ≤ a ∧ a ≤ 2147483647) : Wx d 129 434 ls (vi a :: st) σ Q ↔ Wx d 129 435 ls (vl a :: st) σ Q := u_i2l d129_434 h
theorem d129_435 : decode (mB 129) 435 = .ok (.lcmp, 1) := by decide +kernel
theorem u129_435 {d : Nat} {ls : Lo} {st : List Va} {σ : Sg} {Q : Rs → Sg → Prop} {a b : Int} : Wx d 129 435 ls (vl b :: vl a :: st) σ Q ↔ Wx d 129 436 ls (vi (lg_cmp (i6 a) (i6 b)).toInt :: st) σ Q := u_lcmp d129_435
theorem d129_436 : decode (mB 129) 436 = .ok (.ifCond .eq 5, 3) := by decide +kernel
theorem u129_436 {d : Nat} {ls : Lo} {st : List Va} {σ : Sg} {Q : Rs → Sg → Prop} {a : Int} (h : -2147483648 ≤ a ∧ a ≤ 2147483647) : Wx d 129 436 ls (vi a :: st) σ Q ↔ if a = 0 then Wx d 129 441 ls st σ Q else Wx d 129 439 ls st σ Q := u_ifeq d129_436 (by decide) h
theorem d129_439 : decode (mB 129) 439 = .ok (.iconst 0, 1) := by decide +kernel
theorem u129_439 {d : Nat} {ls : Lo} {st : List Va} {σ : Sg} {Q : Rs → Sg → Prop} : Wx d 129 439 ls st σ Q ↔ Wx d 129 440 ls (vi 0 :: st) σ Q := u_iconst d129_439
theorem d129_440 : decode (mB 129) 440 = .ok (.ireturn, 1) := by decide +kernel
theorem u129_440 {d : Nat} {ls : Lo} {σ : Sg} {Q : Rs → Sg → Prop} {z : Int} (h : z = 0 ∨ z = 1) : Wx d 129 440 ls [vi z] σ Q ↔ Q (.inl (some (vi z))) σ := u_zret d129_440 rfl h
theorem d129_441 : decode (mB 129) 441 = .ok (.goto 479, 3) := by decide +kernel
theorem u129_441 {d : Nat} {ls : Lo} {st : List Va} {σ : Sg} {Q : Rs → Sg → Prop} : Wx d 129 441 ls st σ Q ↔ Wx d 129 920 ls st σ Q := u_goto d129_441 (by decide)
theorem d129_444 : decode (mB 129) 444 = .ok (.aload_n 1, 1) := by decide +kernel
theorem u129_444 {d : Nat} {ls : Lo} {st : List Va} {σ : Sg} {Q : Rs → Sg → Prop} : Wx d 129 444 ls st σ Q ↔ Lr (lget ls 1) (fun z => Wx d 129 445 ls (.inr (.inl z) :: st) σ Q) := u_aload_n d129_444
theorem d129_445 : decode (mB 129) 445 = .ok (.aload_n 0, 1) := by decide +kernel
theorem u129_445 {d : Nat} {ls : Lo} {st : List Va} {σ : Sg} {Q : Rs → Sg → Prop} : Wx d 129 445 ls st σ Q ↔ Lr (lget ls 0) (fun z => Wx d 129 446 ls (.inr (.inl z) :: st) σ Q) := u_aload_n d129_445
theorem d129_446 : decode (mB 129) 446 = .ok (.iload 4, 2) := by decide +kernel
theorem u129_446 {d : Nat} {ls : Lo} {st : List Va} {σ : Sg} {Q : Rs → Sg → Prop} : Wx d 129 446 ls st σ Q ↔ Li (lget ls 4) (fun z => Wx d 129 448 ls (vi z :: st) σ Q) := u_iload d129_446
theorem d129_448 : decode (mB 129) 448 = .ok (.iconst 1, 1) := by decide +kernel
theorem u129_448 {d : Nat} {ls : Lo} {st : List Va} {σ : Sg} {Q : Rs → Sg → Prop} : Wx d 129 448 ls st σ Q ↔ Wx d 129 449 ls (vi 1 :: st) σ Q := u_iconst d129_448
theorem d129_449 : decode (mB 129) 449 = .ok (.iadd, 1) := by decide +kernel
theorem u129_449 {d : Nat} {ls : Lo} {st : List Va} {σ : Sg} {Q : Rs → Sg → Prop} {a b : Int} : Wx d 129 449 ls (vi b :: vi a :: st) σ Q ↔ Wx d 129 450 ls (vi (a + b) :: st) σ Q := u_iadd d129_449
theorem d129_450 : decode (mB 129) 450 = .ok (.iaload, 1) := by decide +kernel
theorem u129_450 {d : Nat} {ls : Lo} {st : List Va} {σ : Sg} {Q : Rs → Sg → Prop} {z : Int} {g j : Nat} : Wx d 129 450 ls (vi z :: vr g j :: st) σ Q ↔ On (ial σ g j z) (fun x => Wx d 129 451 ls (vi x :: st) σ Q) := u_iald d129_450
theorem d129_451 : decode (mB 129) 451 = .ok (.aload_n 3, 1) := by decide +kernel
theorem u129_451 {d : Nat} {ls : Lo} {st : List Va} {σ : Sg} {Q : Rs → Sg → Prop} : Wx d 129 451 ls st σ Q ↔ Lr (lget ls 3) (fun z => Wx d 129 452 ls (.inr (.inl z) :: st) σ Q) := u_aload_n d129_451
theorem d129_452 : decode (mB 129) 452 = .ok (.invokestatic 91, 3) := by decide +kernel
theorem u129_452 {d : Nat} {ls : Lo} {st : List Va} {σ : Sg} {Q : Rs → Sg → Prop} {a1 a2 a3 : Va} : Wx (d + 1) 129 452 ls (a3 :: a2 :: a1 :: st) σ Q ↔ (st.length ≤ 4 ∧ nlg [a3, a2, a1] = true) ∧ Wm d 135 [a1, a2, a3] σ (Kc (d + 1) 129 455 ls st Q) := u_hlp3 d129_452 rfl rfl rfl rfl
theorem d129_455 : decode (mB 129) 455 = .ok (.istore 5, 2) := by decide +kernel
theorem u129_455 {d : Nat} {ls : Lo} {st : List Va} {σ : Sg} {Q : Rs → Sg → Prop} {z : Int} : Wx d 129 455 ls (vi z :: st) σ Q ↔ Wx d 129 457 (lset ls 5 (vi z)) st σ Q := u_istore d129_455 (by decide)
theorem d129_457 : decode (mB 129) 457 = .ok (.aload_n 2, 1) := by decide +kernel
theorem u129_457 {d : Nat} {ls : Lo} {st : List Va} {σ : Sg} {Q : Rs → Sg → Prop} : Wx d 129 457 ls st σ Q ↔ Lr (lget ls 2) (fun z => Wx d 129 458 ls (.inr (.inl z) :: st) σ Q) := u_aload_n d129_457
theorem d129_458 : decode (mB 129) 458 = .ok (.aload_n 0, 1) := by decide +kernel
theorem u129_458 {d : Nat} {ls : Lo} {st : List Va} {σ : Sg} {Q : Rs → Sg → Prop} : Wx d 129 458 ls st σ Q ↔ Lr (lget ls 0) (fun z => Wx d 129 459 ls (.inr (.inl z) :: st) σ Q) := u_aload_n d129_458
theorem d129_459 : decode (mB 129) 459 = .ok (.iload 4, 2) := by decide +kernel
theorem u129_459 {d : Nat} {ls : Lo} {st : List Va} {σ : Sg} {Q : Rs → Sg → Prop} : Wx d 129 459 ls st σ Q ↔ Li (lget ls 4) (fun z => Wx d 129 461 ls (vi z :: st) σ Q) := u_iload d129_459
theorem d129_461 : decode (mB 129) 461 = .ok (.iconst 1, 1) := by decide +kernel
theorem u129_461 {d : Nat} {ls : Lo} {st : List Va} {σ : Sg} {Q : Rs → Sg → Prop} : Wx d 129 461 ls st σ Q ↔ Wx d 129 462 ls (vi 1 :: st) σ Q := u_iconst d129_461
theorem d129_462 : decode (mB 129) 462 = .ok (.iadd, 1) := by decide +kernel
theorem u129_462 {d : Nat} {ls : Lo} {st : List Va} {σ : Sg} {Q : Rs → Sg → Prop} {a b : Int} : Wx d 129 462 ls (vi b :: vi a :: st) σ Q ↔ Wx d 129 463 ls (vi (a + b) :: st) σ Q := u_iadd d129_462
theorem d129_463 : decode (mB 129) 463 = .ok (.iaload, 1) := by decide +kernel
theorem u129_463 {d : Nat} {ls : Lo} {st : List Va} {σ : Sg} {Q : Rs → Sg → Prop} {z : Int} {g j : Nat} : Wx d 129 463 ls (vi z :: vr g j :: st) σ Q ↔ On (ial σ g j z) (fun x => Wx d 129 464 ls (vi x :: st) σ Q) := u_iald d129_463
theorem d129_464 : decode (mB 129) 464 = .ok (.invokevirtual 94, 3) := by decide +kernel
theorem u129_464 {d : Nat} {ls : Lo} {st : List Va} {σ : Sg} {Q : Rs → Sg → Prop} {g j : Nat} {a1 : Va} : Wx (d + 1) 129 464 ls (a1 :: vr g j :: st) σ Q ↔ (isO g j 7 ∧ st.length ≤ 4 ∧ nlg [a1] = true) ∧ Wm d 97 [vr g j, a1] σ (Kc (d + 1) 129 467 ls st Q) := u_inv1 d129_464 rfl rfl rfl
theorem d129_467 : decode (mB 129) 467 = .ok (.istore 6, 2) := by decide +kernel
theorem u129_467 {d : Nat} {ls : Lo} {st : List Va} {σ : Sg} {Q : Rs → Sg → Prop} {z : Int} : Wx d 129 467 ls (vi z :: st) σ Q ↔ Wx d 129 469 (lset ls 6 (vi z)) st σ Q := u_istore d129_467 (by decide)
theorem d129_469 : decode (mB 129) 469 = .ok (.aload_n 2, 1) := by decide +kernel
theorem u129_469 {d : Nat} {ls : Lo} {st : List Va} {σ : Sg} {Q : Rs → Sg → Prop} : Wx d 129 469 ls st σ Q ↔ Lr (lget ls 2) (fun z => Wx d 129 470 ls (.inr (.inl z) :: st) σ Q) := u_aload_n d129_469
theorem d129_470 : decode (mB 129) 470 = .ok (.invokevirtual 72, 3) := by decide +kernel
theorem u129_470 {d : Nat} {ls : Lo} {st : List Va} {σ : Sg} {Q : Rs → Sg → Prop} {g j : Nat} : Wx (d + 1) 129 470 ls (vr g j :: st) σ Q ↔ (isO g j 7 ∧ st.length ≤ 4 ∧ nlg [] = true) ∧ Wm d 74 [vr g j] σ (Kc (d + 1) 129 473 ls st Q) := u_inv0 d129_470 rfl rfl rfl
theorem d129_473 : decode (mB 129) 473 = .ok (.iload 5, 2) := by decide +kernel
theorem u129_473 {d : Nat} {ls : Lo} {st : List Va} {σ : Sg} {Q : Rs → Sg → Prop} : Wx d 129 473 ls st σ Q ↔ Li (lget ls 5) (fun z => Wx d 129 475 ls (vi z :: st) σ Q) := u_iload d129_473
theorem d129_475 : decode (mB 129) 475 = .ok (.if_icmp .eq 5, 3) := by decide +kernel
theorem u129_475 {d : Nat} {ls : Lo} {st : List Va} {σ : Sg} {Q : Rs → Sg → Prop} {a b : Int} (h : -2147483648 ≤ a ∧ a ≤ 2147483647) (h2 : -2147483648 ≤ b ∧ b ≤ 2147483647) : Wx d 129 475 ls (vi b :: vi a :: st) σ Q ↔ if a = b then Wx d 129 480 ls st σ Q else Wx d 129 478 ls st σ Q := u_iceq d129_475 (by decide) h h2
theorem d129_478 : decode (mB 129) 478 = .ok (.iconst 0, 1) := by decide +kernel
theorem u129_478 {d : Nat} {ls : Lo} {st : List Va} {σ : Sg} {Q : Rs → Sg → Prop} : Wx d 129 478 ls st σ Q ↔ Wx d 129 479 ls (vi 0 :: st) σ Q := u_iconst d129_478
theorem d129_479 : decode (mB 129) 479 = .ok (.ireturn, 1) := by decide +kernel
theorem u129_479 {d : Nat} {ls : Lo} {σ : Sg} {Q : Rs → Sg → Prop} {z : Int} (h : z = 0 ∨ z = 1) : Wx d 129 479 ls [vi z] σ Q ↔ Q (.inl (some (vi z))) σ := u_zret d129_479 rfl h
theorem d129_480 : decode (mB 129) 480 = .ok (.iload 5, 2) := by decide +kernel
theorem u129_480 {d : Nat} {ls : Lo} {st : List Va} {σ : Sg} {Q : Rs → Sg → Prop} : Wx d 129 480 ls st σ Q ↔ Li (lget ls 5) (fun z => Wx d 129 482 ls (vi z :: st) σ Q) := u_iload d129_480
theorem d129_482 : decode (mB 129) 482 = .ok (.ifCond .ne 15, 3) := by decide +kernel
theorem u129_482 {d : Nat} {ls : Lo} {st : List Va} {σ : Sg} {Q : Rs → Sg → Prop} {a : Int} (h : -2147483648 ≤ a ∧ a ≤ 2147483647) : Wx d 129 482 ls (vi a :: st) σ Q ↔ if ¬ a = 0 then Wx d 129 497 ls st σ Q else Wx d 129 485 ls st σ Q := u_ifne d129_482 (by decide) h
theorem d129_485 : decode (mB 129) 485 = .ok (.aload_n 3, 1) := by decide +kernel
theorem u129_485 {d : Nat} {ls : Lo} {st : List Va} {σ : Sg} {Q : Rs → Sg → Prop} : Wx d 129 485 ls st σ Q ↔ Lr (lget ls 3) (fun z => Wx d 129 486 ls (.inr (.inl z) :: st) σ Q) := u_aload_n d129_485
theorem d129_486 : decode (mB 129) 486 = .ok (.iconst 0, 1) := by decide +kernel
theorem u129_486 {d : Nat} {ls : Lo} {st : List Va} {σ : Sg} {Q : Rs → Sg → Prop} : Wx d 129 486 ls st σ Q ↔ Wx d 129 487 ls (vi 0 :: st) σ Q := u_iconst d129_486
theorem d129_487 : decode (mB 129) 487 = .ok (.laload, 1) := by decide +kernel
theorem u129_487 {d : Nat} {ls : Lo} {st : List Va} {σ : Sg} {Q : Rs → Sg → Prop} {z : Int} {g j : Nat} : Wx d 129 487 ls (vi z :: vr g j :: st) σ Q ↔ isA g j 4 z ∧ Wx d 129 488 ls (vl (σ g j z.toNat) :: st) σ Q := u_lald d129_487
theorem d129_488 : decode (mB 129) 488 = .ok (.iload 6, 2) := by decide +kernel
theorem u129_488 {d : Nat} {ls : Lo} {st : List Va} {σ : Sg} {Q : Rs → Sg → Prop} : Wx d 129 488 ls st σ Q ↔ Li (lget ls 6) (fun z => Wx d 129 490 ls (vi z :: st) σ Q) := u_iload d129_488
theorem d129_490 : decode (mB 129) 490 = .ok (.i2l, 1) := by decide +kernel
theorem u129_490 {d : Nat} {ls : Lo} {st : List Va} {σ : Sg} {Q : Rs → Sg → Prop} {a : Int} (h : -2147483648 ≤ a ∧ a ≤ 2147483647) : Wx d 129 490 ls (vi a :: st) σ Q ↔ Wx d 129 491 ls (vl a :: st) σ Q := u_i2l d129_490 h
theorem d129_491 : decode (mB 129) 491 = .ok (.lcmp, 1) := by decide +kernel
theorem u129_491 {d : Nat} {ls : Lo} {st : List Va} {σ : Sg} {Q : Rs → Sg → Prop} {a b : Int} : Wx d 129 491 ls (vl b :: vl a :: st) σ Q ↔ Wx d 129 492 ls (vi (lg_cmp (i6 a) (i6 b)).toInt :: st) σ Q := u_lcmp d129_491
theorem d129_492 : decode (mB 129) 492 = .ok (.ifCond .eq 5, 3) := by decide +kernel
theorem u129_492 {d : Nat} {ls : Lo} {st : List Va} {σ : Sg} {Q : Rs → Sg → Prop} {a : Int} (h : -2147483648 ≤ a ∧ a ≤ 2147483647) : Wx d 129 492 ls (vi a :: st) σ Q ↔ if a = 0 then Wx d 129 497 ls st σ Q else Wx d 129 495 ls st σ Q := u_ifeq d129_492 (by decide) h
theorem d129_495 : decode (mB 129) 495 = .ok (.iconst 0, 1) := by decide +kernel
theorem u129_495 {d : Nat} {ls : Lo} {st : List Va} {σ : Sg} {Q : Rs → Sg → Prop} : Wx d 129 495 ls st σ Q ↔ Wx d 129 496 ls (vi 0 :: st) σ Q := u_iconst d129_495
theorem d129_496 : decode (mB 129) 496 = .ok (.ireturn, 1) := by decide +kernel
theorem u129_496 {d : Nat} {ls : Lo} {σ : Sg} {Q : Rs → Sg → Prop} {z : Int} (h : z = 0 ∨ z = 1) : Wx d 129 496 ls [vi z] σ Q ↔ Q (.inl (some (vi z))) σ := u_zret d129_496 rfl h
theorem d129_497 : decode (mB 129) 497 = .ok (.goto 423, 3) := by decide +kernel
theorem u129_497 {d : Nat} {ls : Lo} {st : List Va} {σ : Sg} {Q : Rs → Sg → Prop} : Wx d 129 497 ls st σ Q ↔ Wx d 129 920 ls st σ Q := u_goto d129_497 (by decide)
theorem d129_500 : decode (mB 129) 500 = .ok (.aload_n 1, 1) := by decide +kernel
theorem u129_500 {d : Nat} {ls : Lo} {st : List Va} {σ : Sg} {Q : Rs → Sg → Prop} : Wx d 129 500 ls st σ Q ↔ Lr (lget ls 1) (fun z => Wx d 129 501 ls (.inr (.inl z) :: st) σ Q) := u_aload_n d129_500
theorem d129_501 : decode (mB 129) 501 = .ok (.aload_n 0, 1) := by decide +kernel
theorem u129_501 {d : Nat} {ls : Lo} {st : List Va} {σ : Sg} {Q : Rs → Sg → Prop} : Wx d 129 501 ls st σ Q ↔ Lr (lget ls 0) (fun z => Wx d 129 502 ls (.inr (.inl z) :: st) σ Q) := u_aload_n d129_501
theorem d129_502 : decode (mB 129) 502 = .ok (.iload 4, 2) := by decide +kernel
theorem u129_502 {d : Nat} {ls : Lo} {st : List Va} {σ : Sg} {Q : Rs → Sg → Prop} : Wx d 129 502 ls st σ Q ↔ Li (lget ls 4) (fun z => Wx d 129 504 ls (vi z :: st) σ Q) := u_iload d129_502
theorem d129_504 : decode (mB 129) 504 = .ok (.iconst 1, 1) := by decide +kernel
theorem u129_504 {d : Nat} {ls : Lo} {st : List Va} {σ : Sg} {Q : Rs → Sg → Prop} : Wx d 129 504 ls st σ Q ↔ Wx d 129 505 ls (vi 1 :: st) σ Q := u_iconst d129_504
theorem d129_505 : decode (mB 129) 505 = .ok (.iadd, 1) := by decide +kernel
theorem u129_505 {d : Nat} {ls : Lo} {st : List Va} {σ : Sg} {Q : Rs → Sg → Prop} {a b : Int} : Wx d 129 505 ls (vi b :: vi a :: st) σ Q ↔ Wx d 129 506 ls (vi (a + b) :: st) σ Q := u_iadd d129_505
theorem d129_506 : decode (mB 129) 506 = .ok (.iaload, 1) := by decide +kernel
theorem u129_506 {d : Nat} {ls : Lo} {st : List Va} {σ : Sg} {Q : Rs → Sg → Prop} {z : Int} {g j : Nat} : Wx d 129 506 ls (vi z :: vr g j :: st) σ Q ↔ On (ial σ g j z) (fun x => Wx d 129 507 ls (vi x :: st) σ Q) := u_iald d129_506
theorem d129_507 : decode (mB 129) 507 = .ok (.aload_n 0, 1) := by decide +kernel
theorem u129_507 {d : Nat} {ls : Lo} {st : List Va} {σ : Sg} {Q : Rs → Sg → Prop} : Wx d 129 507 ls st σ Q ↔ Lr (lget ls 0) (fun z => Wx d 129 508 ls (.inr (.inl z) :: st) σ Q) := u_aload_n d129_507
theorem d129_508 : decode (mB 129) 508 = .ok (.iload 4, 2) := by decide +kernel
theorem u129_508 {d : Nat} {ls : Lo} {st : List Va} {σ : Sg} {Q : Rs → Sg → Prop} : Wx d 129 508 ls st σ Q ↔ Li (lget ls 4) (fun z => Wx d 129 510 ls (vi z :: st) σ Q) := u_iload d129_508
theorem d129_510 : decode (mB 129) 510 = .ok (.iconst 2, 1) := by decide +kernel
theorem u129_510 {d : Nat} {ls : Lo} {st : List Va} {σ : Sg} {Q : Rs → Sg → Prop} : Wx d 129 510 ls st σ Q ↔ Wx d 129 511 ls (vi 2 :: st) σ Q := u_iconst d129_510
theorem d129_511 : decode (mB 129) 511 = .ok (.iadd, 1) := by decide +kernel
theorem u129_511 {d : Nat} {ls : Lo} {st : List Va} {σ : Sg} {Q : Rs → Sg → Prop} {a b : Int} : Wx d 129 511 ls (vi b :: vi a :: st) σ Q ↔ Wx d 129 512 ls (vi (a + b) :: st) σ Q := u_iadd d129_511
theorem d129_512 : decode (mB 129) 512 = .ok (.iaload, 1) := by decide +kernel
theorem u129_512 {d : Nat} {ls : Lo} {st : List Va} {σ : Sg} {Q : Rs → Sg → Prop} {z : Int} {g j : Nat} : Wx d 129 512 ls (vi z :: vr g j :: st) σ Q ↔ On (ial σ g j z) (fun x => Wx d 129 513 ls (vi x :: st) σ Q) := u_iald d129_512
theorem d129_513 : decode (mB 129) 513 = .ok (.aload_n 0, 1) := by decide +kernel
theorem u129_513 {d : Nat} {ls : Lo} {st : List Va} {σ : Sg} {Q : Rs → Sg → Prop} : Wx d 129 513 ls st σ Q ↔ Lr (lget ls 0) (fun z => Wx d 129 514 ls (.inr (.inl z) :: st) σ Q) := u_aload_n d129_513
theorem d129_514 : decode (mB 129) 514 = .ok (.iload 4, 2) := by decide +kernel
theorem u129_514 {d : Nat} {ls : Lo} {st : List Va} {σ : Sg} {Q : Rs → Sg → Prop} : Wx d 129 514 ls st σ Q ↔ Li (lget ls 4) (fun z => Wx d 129 516 ls (vi z :: st) σ Q) := u_iload d129_514
theorem d129_516 : decode (mB 129) 516 = .ok (.iconst 3, 1) := by decide +kernel
theorem u129_516 {d : Nat} {ls : Lo} {st : List Va} {σ : Sg} {Q : Rs → Sg → Prop} : Wx d 129 516 ls st σ Q ↔ Wx d 129 517 ls (vi 3 :: st) σ Q := u_iconst d129_516
theorem d129_517 : decode (mB 129) 517 = .ok (.iadd, 1) := by decide +kernel
theorem u129_517 {d : Nat} {ls : Lo} {st : List Va} {σ : Sg} {Q : Rs → Sg → Prop} {a b : Int} : Wx d 129 517 ls (vi b :: vi a :: st) σ Q ↔ Wx d 129 518 ls (vi (a + b) :: st) σ Q := u_iadd d129_517
theorem d129_518 : decode (mB 129) 518 = .ok (.iaload, 1) := by decide +kernel
theorem u129_518 {d : Nat} {ls : Lo} {st : List Va} {σ : Sg} {Q : Rs → Sg → Prop} {z : Int} {g j : Nat} : Wx d 129 518 ls (vi z :: vr g j :: st) σ Q ↔ On (ial σ g j z) (fun x => Wx d 129 519 ls (vi x :: st) σ Q) := u_iald d129_518
theorem d129_519 : decode (mB 129) 519 = .ok (.aload_n 3, 1) := by decide +kernel
theorem u129_519 {d : Nat} {ls : Lo} {st : List Va} {σ : Sg} {Q : Rs → Sg → Prop} : Wx d 129 519 ls st σ Q ↔ Lr (lget ls 3) (fun z => Wx d 129 520 ls (.inr (.inl z) :: st) σ Q) := u_aload_n d129_519
theorem d129_520 : decode (mB 129) 520 = .ok (.invokestatic 95, 3) := by decide +kernel
theorem u129_520 {d : Nat} {ls : Lo} {st : List Va} {σ : Sg} {Q : Rs → Sg → Prop} {a1 a2 a3 a4 a5 : Va} : Wx (d + 1) 129 520 ls (a5 :: a4 :: a3 :: a2 :: a1 :: st) σ Q ↔ (st.length ≤ 4 ∧ nlg [a5, a4, a3, a2, a1] = true) ∧ Wm d 136 [a1, a2, a3, a4, a5] σ (Kc (d + 1) 129 523 ls st Q) := u_hlp5 d129_520 rfl rfl rfl rfl
theorem d129_523 : decode (mB 129) 523 = .ok (.istore 5, 2) := by decide +kernel
theorem u129_523 {d : Nat} {ls : Lo} {st : List Va} {σ : Sg} {Q : Rs → Sg → Prop} {z : Int} : Wx d 129 523 ls (vi z :: st) σ Q ↔ Wx d 129 525 (lset ls 5 (vi z)) st σ Q := u_istore d129_523 (by decide)
theorem d129_525 : decode (mB 129) 525 = .ok (.aload_n 2, 1) := by decide +kernel
theorem u129_525 {d : Nat} {ls : Lo} {st : List Va} {σ : Sg} {Q : Rs → Sg → Prop} : Wx d 129 525 ls st σ Q ↔ Lr (lget ls 2) (fun z => Wx d 129 526 ls (.inr (.inl z) :: st) σ Q) := u_aload_n d129_525
theorem d129_526 : decode (mB 129) 526 = .ok (.aload_n 0, 1) := by decide +kernel
theorem u129_526 {d : Nat} {ls : Lo} {st : List Va} {σ : Sg} {Q : Rs → Sg → Prop} : Wx d 129 526 ls st σ Q ↔ Lr (lget ls 0) (fun z => Wx d 129 527 ls (.inr (.inl z) :: st) σ Q) := u_aload_n d129_526
theorem d129_527 : decode (mB 129) 527 = .ok (.iload 4, 2) := by decide +kernel
theorem u129_527 {d : Nat} {ls : Lo} {st : List Va} {σ : Sg} {Q : Rs → Sg → Prop} : Wx d 129 527 ls st σ Q ↔ Li (lget ls 4) (fun z => Wx d 129 529 ls (vi z :: st) σ Q) := u_iload d129_527
theorem d129_529 : decode (mB 129) 529 = .ok (.iconst 1, 1) := by decide +kernel
theorem u129_529 {d : Nat} {ls : Lo} {st : List Va} {σ : Sg} {Q : Rs → Sg → Prop} : Wx d 129 529 ls st σ Q ↔ Wx d 129 530 ls (vi 1 :: st) σ Q := u_iconst d129_529
theorem d129_530 : decode (mB 129) 530 = .ok (.iadd, 1) := by decide +kernel
theorem u129_530 {d : Nat} {ls : Lo} {st : List Va} {σ : Sg} {Q : Rs → Sg → Prop} {a b : Int} : Wx d 129 530 ls (vi b :: vi a :: st) σ Q ↔ Wx d 129 531 ls (vi (a + b) :: st) σ Q := u_iadd d129_530
theorem d129_531 : decode (mB 129) 531 = .ok (.iaload, 1) := by decide +kernel
theorem u129_531 {d : Nat} {ls : Lo} {st : List Va} {σ : Sg} {Q : Rs → Sg → Prop} {z : Int} {g j : Nat} : Wx d 129 531 ls (vi z :: vr g j :: st) σ Q ↔ On (ial σ g j z) (fun x => Wx d 129 532 ls (vi x :: st) σ Q) := u_iald d129_531
theorem d129_532 : decode (mB 129) 532 = .ok (.aload_n 0, 1) := by decide +kernel
theorem u129_532 {d : Nat} {ls : Lo} {st : List Va} {σ : Sg} {Q : Rs → Sg → Prop} : Wx d 129 532 ls st σ Q ↔ Lr (lget ls 0) (fun z => Wx d 129 533 ls (.inr (.inl z) :: st) σ Q) := u_aload_n d129_532
theorem d129_533 : decode (mB 129) 533 = .ok (.iload 4, 2) := by decide +kernel
theorem u129_533 {d : Nat} {ls : Lo} {st : List Va} {σ : Sg} {Q : Rs → Sg → Prop} : Wx d 129 533 ls st σ Q ↔ Li (lget ls 4) (fun z => Wx d 129 535 ls (vi z :: st) σ Q) := u_iload d129_533
theorem d129_535 : decode (mB 129) 535 = .ok (.iconst 2, 1) := by decide +kernel
theorem u129_535 {d : Nat} {ls : Lo} {st : List Va} {σ : Sg} {Q : Rs → Sg → Prop} : Wx d 129 535 ls st σ Q ↔ Wx d 129 536 ls (vi 2 :: st) σ Q := u_iconst d129_535
theorem d129_536 : decode (mB 129) 536 = .ok (.iadd, 1) := by decide +kernel
theorem u129_536 {d : Nat} {ls : Lo} {st : List Va} {σ : Sg} {Q : Rs → Sg → Prop} {a b : Int} : Wx d 129 536 ls (vi b :: vi a :: st) σ Q ↔ Wx d 129 537 ls (vi (a + b) :: st) σ Q := u_iadd d129_536
theorem d129_537 : decode (mB 129) 537 = .ok (.iaload, 1) := by decide +kernel
theorem u129_537 {d : Nat} {ls : Lo} {st : List Va} {σ : Sg} {Q : Rs → Sg → Prop} {z : Int} {g j : Nat} : Wx d 129 537 ls (vi z :: vr g j :: st) σ Q ↔ On (ial σ g j z) (fun x => Wx d 129 538 ls (vi x :: st) σ Q) := u_iald d129_537
theorem d129_538 : decode (mB 129) 538 = .ok (.aload_n 0, 1) := by decide +kernel
theorem u129_538 {d : Nat} {ls : Lo} {st : List Va} {σ : Sg} {Q : Rs → Sg → Prop} : Wx d 129 538 ls st σ Q ↔ Lr (lget ls 0) (fun z => Wx d 129 539 ls (.inr (.inl z) :: st) σ Q) := u_aload_n d129_538
theorem d129_539 : decode (mB 129) 539 = .ok (.iload 4, 2) := by decide +kernel
theorem u129_539 {d : Nat} {ls : Lo} {st : List Va} {σ : Sg} {Q : Rs → Sg → Prop} : Wx d 129 539 ls st σ Q ↔ Li (lget ls 4) (fun z => Wx d 129 541 ls (vi z :: st) σ Q) := u_iload d129_539
theorem d129_541 : decode (mB 129) 541 = .ok (.iconst 3, 1) := by decide +kernel
theorem u129_541 {d : Nat} {ls : Lo} {st : List Va} {σ : Sg} {Q : Rs → Sg → Prop} : Wx d 129 541 ls st σ Q ↔ Wx d 129 542 ls (vi 3 :: st) σ Q := u_iconst d129_541
theorem d129_542 : decode (mB 129) 542 = .ok (.iadd, 1) := by decide +kernel
theorem u129_542 {d : Nat} {ls : Lo} {st : List Va} {σ : Sg} {Q : Rs → Sg → Prop} {a b : Int} : Wx d 129 542 ls (vi b :: vi a :: st) σ Q ↔ Wx d 129 543 ls (vi (a + b) :: st) σ Q := u_iadd d129_542
theorem d129_543 : decode (mB 129) 543 = .ok (.iaload, 1) := by decide +kernel
theorem u129_543 {d : Nat} {ls : Lo} {st : List Va} {σ : Sg} {Q : Rs → Sg → Prop} {z : Int} {g j : Nat} : Wx d 129 543 ls (vi z :: vr g j :: st) σ Q ↔ On (ial σ g j z) (fun x => Wx d 129 544 ls (vi x :: st) σ Q) := u_iald d129_543
theorem d129_544 : decode (mB 129) 544 = .ok (.invokevirtual 97, 3) := by decide +kernel
theorem u129_544 {d : Nat} {ls : Lo} {st : List Va} {σ : Sg} {Q : Rs → Sg → Prop} {g j : Nat} {a1 a2 a3 : Va} : Wx (d + 1) 129 544 ls (a3 :: a2 :: a1 :: vr g j :: st) σ Q ↔ (isO g j 7 ∧ st.length ≤ 4 ∧ nlg [a3, a2, a1] = true) ∧ Wm d 98 [vr g j, a1, a2, a3] σ (Kc (d + 1) 129 547 ls st Q) := u_inv3 d129_544 rfl rfl rfl
theorem d129_547 : decode (mB 129) 547 = .ok (.istore 6, 2) := by decide +kernel
theorem u129_547 {d : Nat} {ls : Lo} {st : List Va} {σ : Sg} {Q : Rs → Sg → Prop} {z : Int} : Wx d 129 547 ls (vi z :: st) σ Q ↔ Wx d 129 549 (lset ls 6 (vi z)) st σ Q := u_istore d129_547 (by decide)
theorem d129_549 : decode (mB 129) 549 = .ok (.aload_n 2, 1) := by decide +kernel
theorem u129_549 {d : Nat} {ls : Lo} {st : List Va} {σ : Sg} {Q : Rs → Sg → Prop} : Wx d 129 549 ls st σ Q ↔ Lr (lget ls 2) (fun z => Wx d 129 550 ls (.inr (.inl z) :: st) σ Q) := u_aload_n d129_549
theorem d129_550 : decode (mB 129) 550 = .ok (.invokevirtual 72, 3) := by decide +kernel
theorem u129_550 {d : Nat} {ls : Lo} {st : List Va} {σ : Sg} {Q : Rs → Sg → Prop} {g j : Nat} : Wx (d + 1) 129 550 ls (vr g j :: st) σ Q ↔ (isO g j 7 ∧ st.length ≤ 4 ∧ nlg [] = true) ∧ Wm d 74 [vr g j] σ (Kc (d + 1) 129 553 ls st Q) := u_inv0 d129_550 rfl rfl rfl
theorem d129_553 : decode (mB 129) 553 = .ok (.iload 5, 2) := by decide +kernel
theorem u129_553 {d : Nat} {ls : Lo} {st : List Va} {σ : Sg} {Q : Rs → Sg → Prop} : Wx d 129 553 ls st σ Q ↔ Li (lget ls 5) (fun z => Wx d 129 555 ls (vi z :: st) σ Q) := u_iload d129_553
theorem d129_555 : decode (mB 129) 555 = .ok (.if_icmp .eq 5, 3) := by decide +kernel
theorem u129_555 {d : Nat} {ls : Lo} {st : List Va} {σ : Sg} {Q : Rs → Sg → Prop} {a b : Int} (h : -2147483648 ≤ a ∧ a ≤ 2147483647) (h2 : -2147483648 ≤ b ∧ b ≤ 2147483647) : Wx d 129 555 ls (vi b :: vi a :: st) σ Q ↔ if a = b then Wx d 129 560 ls st σ Q else Wx d 129 558 ls st σ Q := u_iceq d129_555 (by decide) h h2
theorem d129_558 : decode (mB 129) 558 = .ok (.iconst 0, 1) := by decide +kernel
theorem u129_558 {d : Nat} {ls : Lo} {st : List Va} {σ : Sg} {Q : Rs → Sg → Prop} : Wx d 129 558 ls st σ Q ↔ Wx d 129 559 ls (vi 0 :: st) σ Q := u_iconst d129_558
theorem d129_559 : decode (mB 129) 559 = .ok (.ireturn, 1) := by decide +kernel
theorem u129_559 {d : Nat} {ls : Lo} {σ : Sg} {Q : Rs → Sg → Prop} {z : Int} (h : z = 0 ∨ z = 1) : Wx d 129 559 ls [vi z] σ Q ↔ Q (.inl (some (vi z))) σ := u_zret d129_559 rfl h
theorem d129_560 : decode (mB 129) 560 = .ok (.iload 5, 2) := by decide +kernel
theorem u129_560 {d : Nat} {ls : Lo} {st : List Va} {σ : Sg} {Q : Rs → Sg → Prop} : Wx d 129 560 ls st σ Q ↔ Li (lget ls 5) (fun z => Wx d 129 562 ls (vi z :: st) σ Q) := u_iload d129_560
theorem d129_562 : decode (mB 129) 562 = .ok (.ifCond .ne 15, 3) := by decide +kernel
theorem u129_562 {d : Nat} {ls : Lo} {st : List Va} {σ : Sg} {Q : Rs → Sg → Prop} {a : Int} (h : -2147483648 ≤ a ∧ a ≤ 2147483647) : Wx d 129 562 ls (vi a :: st) σ Q ↔ if ¬ a = 0 then Wx d 129 577 ls st σ Q else Wx d 129 565 ls st σ Q := u_ifne d129_562 (by decide) h
theorem d129_565 : decode (mB 129) 565 = .ok (.aload_n 3, 1) := by decide +kernel
theorem u129_565 {d : Nat} {ls : Lo} {st : List Va} {σ : Sg} {Q : Rs → Sg → Prop} : Wx d 129 565 ls st σ Q ↔ Lr (lget ls 3) (fun z => Wx d 129 566 ls (.inr (.inl z) :: st) σ Q) := u_aload_n d129_565
theorem d129_566 : decode (mB 129) 566 = .ok (.iconst 0, 1) := by decide +kernel
theorem u129_566 {d : Nat} {ls : Lo} {st : List Va} {σ : Sg} {Q : Rs → Sg → Prop} : Wx d 129 566 ls st σ Q ↔ Wx d 129 567 ls (vi 0 :: st) σ Q := u_iconst d129_566
theorem d129_567 : decode (mB 129) 567 = .ok (.laload, 1) := by decide +kernel
theorem u129_567 {d : Nat} {ls : Lo} {st : List Va} {σ : Sg} {Q : Rs → Sg → Prop} {z : Int} {g j : Nat} : Wx d 129 567 ls (vi z :: vr g j :: st) σ Q ↔ isA g j 4 z ∧ Wx d 129 568 ls (vl (σ g j z.toNat) :: st) σ Q := u_lald d129_567
theorem d129_568 : decode (mB 129) 568 = .ok (.iload 6, 2) := by decide +kernel
theorem u129_568 {d : Nat} {ls : Lo} {st : List Va} {σ : Sg} {Q : Rs → Sg → Prop} : Wx d 129 568 ls st σ Q ↔ Li (lget ls 6) (fun z => Wx d 129 570 ls (vi z :: st) σ Q) := u_iload d129_568
theorem d129_570 : decode (mB 129) 570 = .ok (.i2l, 1) := by decide +kernel
theorem u129_570 {d : Nat} {ls : Lo} {st : List Va} {σ : Sg} {Q : Rs → Sg → Prop} {a : Int} (h : -2147483648 ≤ a ∧ a ≤ 2147483647) : Wx d 129 570 ls (vi a :: st) σ Q ↔ Wx d 129 571 ls (vl a :: st) σ Q := u_i2l d129_570 h
theorem d129_571 : decode (mB 129) 571 = .ok (.lcmp, 1) := by decide +kernel
theorem u129_571 {d : Nat} {ls : Lo} {st : List Va} {σ : Sg} {Q : Rs → Sg → Prop} {a b : Int} : Wx d 129 571 ls (vl b :: vl a :: st) σ Q ↔ Wx d 129 572 ls (vi (lg_cmp (i6 a) (i6 b)).toInt :: st) σ Q := u_lcmp d129_571
theorem d129_572 : decode (mB 129) 572 = .ok (.ifCond .eq 5, 3) := by decide +kernel
theorem u129_572 {d : Nat} {ls : Lo} {st : List Va} {σ : Sg} {Q : Rs → Sg → Prop} {a : Int} (h : -2147483648 ≤ a ∧ a ≤ 2147483647) : Wx d 129 572 ls (vi a :: st) σ Q ↔ if a = 0 then Wx d 129 577 ls st σ Q else Wx d 129 575 ls st σ Q := u_ifeq d129_572 (by decide) h
theorem d129_575 : decode (mB 129) 575 = .ok (.iconst 0, 1) := by decide +kernel
theorem u129_575 {d : Nat} {ls : Lo} {st : List Va} {σ : Sg} {Q : Rs → Sg → Prop} : Wx d 129 575 ls st σ Q ↔ Wx d 129 576 ls (vi 0 :: st) σ Q := u_iconst d129_575
theorem d129_576 : decode (mB 129) 576 = .ok (.ireturn, 1) := by decide +kernel
theorem u129_576 {d : Nat} {ls : Lo} {σ : Sg} {Q : Rs → Sg → Prop} {z : Int} (h : z = 0 ∨ z = 1) : Wx d 129 576 ls [vi z] σ Q ↔ Q (.inl (some (vi z))) σ := u_zret d129_576 rfl h
theorem d129_577 : decode (mB 129) 577 = .ok (.goto 343, 3) := by decide +kernel
theorem u129_577 {d : Nat} {ls : Lo} {st : List Va} {σ : Sg} {Q : Rs → Sg → Prop} : Wx d 129 577 ls st σ Q ↔ Wx d 129 920 ls st σ Q := u_goto d129_577 (by decide)
theorem d129_580 : decode (mB 129) 580 = .ok (.aload_n 1, 1) := by decide +kernel
theorem u129_580 {d : Nat} {ls : Lo} {st : List Va} {σ : Sg} {Q : Rs → Sg → Prop} : Wx d 129 580 ls st σ Q ↔ Lr (lget ls 1) (fun z => Wx d 129 581 ls (.inr (.inl z) :: st) σ Q) := u_aload_n d129_580
theorem d129_581 : decode (mB 129) 581 = .ok (.aload_n 3, 1) := by decide +kernel
theorem u129_581 {d : Nat} {ls : Lo} {st : List Va} {σ : Sg} {Q : Rs → Sg → Prop} : Wx d 129 581 ls st σ Q ↔ Lr (lget ls 3) (fun z => Wx d 129 582 ls (.inr (.inl z) :: st) σ Q) := u_aload_n d129_581
theorem d129_582 : decode (mB 129) 582 = .ok (.invokestatic 98, 3) := by decide +kernel
theorem u129_582 {d : Nat} {ls : Lo} {st : List Va} {σ : Sg} {Q : Rs → Sg → Prop} {a1 a2 : Va} : Wx (d + 1) 129 582 ls (a2 :: a1 :: st) σ Q ↔ (st.length ≤ 4 ∧ nlg [a2, a1] = true) ∧ Wm d 137 [a1, a2] σ (Kc (d + 1) 129 585 ls st Q) := u_hlp2 d129_582 rfl rfl rfl rfl
theorem d129_585 : decode (mB 129) 585 = .ok (.istore 5, 2) := by decide +kernel
theorem u129_585 {d : Nat} {ls : Lo} {st : List Va} {σ : Sg} {Q : Rs → Sg → Prop} {z : Int} : Wx d 129 585 ls (vi z :: st) σ Q ↔ Wx d 129 587 (lset ls 5 (vi z)) st σ Q := u_istore d129_585 (by decide)
theorem d129_587 : decode (mB 129) 587 = .ok (.aload_n 2, 1) := by decide +kernel
theorem u129_587 {d : Nat} {ls : Lo} {st : List Va} {σ : Sg} {Q : Rs → Sg → Prop} : Wx d 129 587 ls st σ Q ↔ Lr (lget ls 2) (fun z => Wx d 129 588 ls (.inr (.inl z) :: st) σ Q) := u_aload_n d129_587
theorem d129_588 : decode (mB 129) 588 = .ok (.invokevirtual 101, 3) := by decide +kernel
theorem u129_588 {d : Nat} {ls : Lo} {st : List Va} {σ : Sg} {Q : Rs → Sg → Prop} {g j : Nat} : Wx (d + 1) 129 588 ls (vr g j :: st) σ Q ↔ (isO g j 7 ∧ st.length ≤ 4 ∧ nlg [] = true) ∧ Wm d 116 [vr g j] σ (Kc (d + 1) 129 591 ls st Q) := u_inv0 d129_588 rfl rfl rfl
theorem d129_591 : decode (mB 129) 591 = .ok (.istore 6, 2) := by decide +kernel
theorem u129_591 {d : Nat} {ls : Lo} {st : List Va} {σ : Sg} {Q : Rs → Sg → Prop} {z : Int} : Wx d 129 591 ls (vi z :: st) σ Q ↔ Wx d 129 593 (lset ls 6 (vi z)) st σ Q := u_istore d129_591 (by decide)
theorem d129_593 : decode (mB 129) 593 = .ok (.aload_n 2, 1) := by decide +kernel
theorem u129_593 {d : Nat} {ls : Lo} {st : List Va} {σ : Sg} {Q : Rs → Sg → Prop} : Wx d 129 593 ls st σ Q ↔ Lr (lget ls 2) (fun z => Wx d 129 594 ls (.inr (.inl z) :: st) σ Q) := u_aload_n d129_593
theorem d129_594 : decode (mB 129) 594 = .ok (.invokevirtual 72, 3) := by decide +kernel
theorem u129_594 {d : Nat} {ls : Lo} {st : List Va} {σ : Sg} {Q : Rs → Sg → Prop} {g j : Nat} : Wx (d + 1) 129 594 ls (vr g j :: st) σ Q ↔ (isO g j 7 ∧ st.length ≤ 4 ∧ nlg [] = true) ∧ Wm d 74 [vr g j] σ (Kc (d + 1) 129 597 ls st Q) := u_inv0 d129_594 rfl rfl rfl
theorem d129_597 : decode (mB 129) 597 = .ok (.iload 5, 2) := by decide +kernel
theorem u129_597 {d : Nat} {ls : Lo} {st : List Va} {σ : Sg} {Q : Rs → Sg → Prop} : Wx d 129 597 ls st σ Q ↔ Li (lget ls 5) (fun z => Wx d 129 599 ls (vi z :: st) σ Q) := u_iload d129_597
theorem d129_599 : decode (mB 129) 599 = .ok (.if_icmp .eq 5, 3) := by decide +kernel
theorem u129_599 {d : Nat} {ls : Lo} {st : List Va} {σ : Sg} {Q : Rs → Sg → Prop} {a b : Int} (h : -2147483648 ≤ a ∧ a ≤ 2147483647) (h2 : -2147483648 ≤ b ∧ b ≤ 2147483647) : Wx d 129 599 ls (vi b :: vi a :: st) σ Q ↔ if a = b then Wx d 129 604 ls st σ Q else Wx d 129 602 ls st σ Q := u_iceq d129_599 (by decide) h h2
theorem d129_602 : decode (mB 129) 602 = .ok (.iconst 0, 1) := by decide +kernel
theorem u129_602 {d : Nat} {ls : Lo} {st : List Va} {σ : Sg} {Q : Rs → Sg → Prop} : Wx d 129 602 ls st σ Q ↔ Wx d 129 603 ls (vi 0 :: st) σ Q := u_iconst d129_602
theorem d129_603 : decode (mB 129) 603 = .ok (.ireturn, 1) := by decide +kernel
theorem u129_603 {d : Nat} {ls : Lo} {σ : Sg} {Q : Rs → Sg → Prop} {z : Int} (h : z = 0 ∨ z = 1) : Wx d 129 603 ls [vi z] σ Q ↔ Q (.inl (some (vi z))) σ := u_zret d129_603 rfl h
theorem d129_604 : decode (mB 129) 604 = .ok (.iload 5, 2) := by decide +kernel
theorem u129_604 {d : Nat} {ls : Lo} {st : List Va} {σ : Sg} {Q : Rs → Sg → Prop} : Wx d 129 604 ls st σ Q ↔ Li (lget ls 5) (fun z => Wx d 129 606 ls (vi z :: st) σ Q) := u_iload d129_604
theorem d129_606 : decode (mB 129) 606 = .ok (.ifCond .ne 15, 3) := by decide +kernel
theorem u129_606 {d : Nat} {ls : Lo} {st : List Va} {σ : Sg} {Q : Rs → Sg → Prop} {a : Int} (h : -2147483648 ≤ a ∧ a ≤ 2147483647) : Wx d 129 606 ls (vi a :: st) σ Q ↔ if ¬ a = 0 then Wx d 129 621 ls st σ Q else Wx d 129 609 ls st σ Q := u_ifne d129_606 (by decide) h
theorem d129_609 : decode (mB 129) 609 = .ok (.aload_n 3, 1) := by decide +kernel
theorem u129_609 {d : Nat} {ls : Lo} {st : List Va} {σ : Sg} {Q : Rs → Sg → Prop} : Wx d 129 609 ls st σ Q ↔ Lr (lget ls 3) (fun z => Wx d 129 610 ls (.inr (.inl z) :: st) σ Q) := u_aload_n d129_609
theorem d129_610 : decode (mB 129) 610 = .ok (.iconst 0, 1) := by decide +kernel
theorem u129_610 {d : Nat} {ls : Lo} {st : List Va} {σ : Sg} {Q : Rs → Sg → Prop} : Wx d 129 610 ls st σ Q ↔ Wx d 129 611 ls (vi 0 :: st) σ Q := u_iconst d129_610
theorem d129_611 : decode (mB 129) 611 = .ok (.laload, 1) := by decide +kernel
theorem u129_611 {d : Nat} {ls : Lo} {st : List Va} {σ : Sg} {Q : Rs → Sg → Prop} {z : Int} {g j : Nat} : Wx d 129 611 ls (vi z :: vr g j :: st) σ Q ↔ isA g j 4 z ∧ Wx d 129 612 ls (vl (σ g j z.toNat) :: st) σ Q := u_lald d129_611
theorem d129_612 : decode (mB 129) 612 = .ok (.iload 6, 2) := by decide +kernel
theorem u129_612 {d : Nat} {ls : Lo} {st : List Va} {σ : Sg} {Q : Rs → Sg → Prop} : Wx d 129 612 ls st σ Q ↔ Li (lget ls 6) (fun z => Wx d 129 614 ls (vi z :: st) σ Q) := u_iload d129_612
theorem d129_614 : decode (mB 129) 614 = .ok (.i2l, 1) := by decide +kernel
theorem u129_614 {d : Nat} {ls : Lo} {st : List Va} {σ : Sg} {Q : Rs → Sg → Prop} {a : Int} (h : -2147483648 ≤ a ∧ a ≤ 2147483647) : Wx d 129 614 ls (vi a :: st) σ Q ↔ Wx d 129 615 ls (vl a :: st) σ Q := u_i2l d129_614 h
theorem d129_615 : decode (mB 129) 615 = .ok (.lcmp, 1) := by decide +kernel
theorem u129_615 {d : Nat} {ls : Lo} {st : List Va} {σ : Sg} {Q : Rs → Sg → Prop} {a b : Int} : Wx d 129 615 ls (vl b :: vl a :: st) σ Q ↔ Wx d 129 616 ls (vi (lg_cmp (i6 a) (i6 b)).toInt :: st) σ Q := u_lcmp d129_615
theorem d129_616 : decode (mB 129) 616 = .ok (.ifCond .eq 5, 3) := by decide +kernel
theorem u129_616 {d : Nat} {ls : Lo} {st : List Va} {σ : Sg} {Q : Rs → Sg → Prop} {a : Int} (h : -2147483648 ≤ a ∧ a ≤ 2147483647) : Wx d 129 616 ls (vi a :: st) σ Q ↔ if a = 0 then Wx d 129 621 ls st σ Q else Wx d 129 619 ls st σ Q := u_ifeq d129_616 (by decide) h
theorem d129_619 : decode (mB 129) 619 = .ok (.iconst 0, 1) := by decide +kernel
theorem u129_619 {d : Nat} {ls : Lo} {st : List Va} {σ : Sg} {Q : Rs → Sg → Prop} : Wx d 129 619 ls st σ Q ↔ Wx d 129 620 ls (vi 0 :: st) σ Q := u_iconst d129_619
theorem d129_620 : decode (mB 129) 620 = .ok (.ireturn, 1) := by decide +kernel
theorem u129_620 {d : Nat} {ls : Lo} {σ : Sg} {Q : Rs → Sg → Prop} {z : Int} (h : z = 0 ∨ z = 1) : Wx d 129 620 ls [vi z] σ Q ↔ Q (.inl (some (vi z))) σ := u_zret d129_620 rfl h
theorem d129_621 : decode (mB 129) 621 = .ok (.goto 299, 3) := by decide +kernel
theorem u129_621 {d : Nat} {ls : Lo} {st : List Va} {σ : Sg} {Q : Rs → Sg → Prop} : Wx d 129 621 ls st σ Q ↔ Wx d 129 920 ls st σ Q := u_goto d129_621 (by decide)
theorem d129_624 : decode (mB 129) 624 = .ok (.aload_n 1, 1) := by decide +kernel
theorem u129_624 {d : Nat} {ls : Lo} {st : List Va} {σ : Sg} {Q : Rs → Sg → Prop} : Wx d 129 624 ls st σ Q ↔ Lr (lget ls 1) (fun z => Wx d 129 625 ls (.inr (.inl z) :: st) σ Q) := u_aload_n d129_624
theorem d129_625 : decode (mB 129) 625 = .ok (.aload_n 0, 1) := by decide +kernel
theorem u129_625 {d : Nat} {ls : Lo} {st : List Va} {σ : Sg} {Q : Rs → Sg → Prop} : Wx d 129 625 ls st σ Q ↔ Lr (lget ls 0) (fun z => Wx d 129 626 ls (.inr (.inl z) :: st) σ Q) := u_aload_n d129_625
theorem d129_626 : decode (mB 129) 626 = .ok (.iload 4, 2) := by decide +kernel
theorem u129_626 {d : Nat} {ls : Lo} {st : List Va} {σ : Sg} {Q : Rs → Sg → Prop} : Wx d 129 626 ls st σ Q ↔ Li (lget ls 4) (fun z => Wx d 129 628 ls (vi z :: st) σ Q) := u_iload d129_626
theorem d129_628 : decode (mB 129) 628 = .ok (.iconst 1, 1) := by decide +kernel
theorem u129_628 {d : Nat} {ls : Lo} {st : List Va} {σ : Sg} {Q : Rs → Sg → Prop} : Wx d 129 628 ls st σ Q ↔ Wx d 129 629 ls (vi 1 :: st) σ Q := u_iconst d129_628
theorem d129_629 : decode (mB 129) 629 = .ok (.iadd, 1) := by decide +kernel
theorem u129_629 {d : Nat} {ls : Lo} {st : List Va} {σ : Sg} {Q : Rs → Sg → Prop} {a b : Int} : Wx d 129 629 ls (vi b :: vi a :: st) σ Q ↔ Wx d 129 630 ls (vi (a + b) :: st) σ Q := u_iadd d129_629
theorem d129_630 : decode (mB 129) 630 = .ok (.iaload, 1) := by decide +kernel
theorem u129_630 {d : Nat} {ls : Lo} {st : List Va} {σ : Sg} {Q : Rs → Sg → Prop} {z : Int} {g j : Nat} : Wx d 129 630 ls (vi z :: vr g j :: st) σ Q ↔ On (ial σ g j z) (fun x => Wx d 129 631 ls (vi x :: st) σ Q) := u_iald d129_630
theorem d129_631 : decode (mB 129) 631 = .ok (.aload_n 0, 1) := by decide +kernel
theorem u129_631 {d : Nat} {ls : Lo} {st : List Va} {σ : Sg} {Q : Rs → Sg → Prop} : Wx d 129 631 ls st σ Q ↔ Lr (lget ls 0) (fun z => Wx d 129 632 ls (.inr (.inl z) :: st) σ Q) := u_aload_n d129_631
theorem d129_632 : decode (mB 129) 632 = .ok (.iload 4, 2) := by decide +kernel
theorem u129_632 {d : Nat} {ls : Lo} {st : List Va} {σ : Sg} {Q : Rs → Sg → Prop} : Wx d 129 632 ls st σ Q ↔ Li (lget ls 4) (fun z => Wx d 129 634 ls (vi z :: st) σ Q) := u_iload d129_632
theorem d129_634 : decode (mB 129) 634 = .ok (.iconst 2, 1) := by decide +kernel
theorem u129_634 {d : Nat} {ls : Lo} {st : List Va} {σ : Sg} {Q : Rs → Sg → Prop} : Wx d 129 634 ls st σ Q ↔ Wx d 129 635 ls (vi 2 :: st) σ Q := u_iconst d129_634
theorem d129_635 : decode (mB 129) 635 = .ok (.iadd, 1) := by decide +kernel
theorem u129_635 {d : Nat} {ls : Lo} {st : List Va} {σ : Sg} {Q : Rs → Sg → Prop} {a b : Int} : Wx d 129 635 ls (vi b :: vi a :: st) σ Q ↔ Wx d 129 636 ls (vi (a + b) :: st) σ Q := u_iadd d129_635
theorem d129_636 : decode (mB 129) 636 = .ok (.iaload, 1) := by decide +kernel
theorem u129_636 {d : Nat} {ls : Lo} {st : List Va} {σ : Sg} {Q : Rs → Sg → Prop} {z : Int} {g j : Nat} : Wx d 129 636 ls (vi z :: vr g j :: st) σ Q ↔ On (ial σ g j z) (fun x => Wx d 129 637 ls (vi x :: st) σ Q) := u_iald d129_636
theorem d129_637 : decode (mB 129) 637 = .ok (.aload_n 3, 1) := by decide +kernel
theorem u129_637 {d : Nat} {ls : Lo} {st : List Va} {σ : Sg} {Q : Rs → Sg → Prop} : Wx d 129 637 ls st σ Q ↔ Lr (lget ls 3) (fun z => Wx d 129 638 ls (.inr (.inl z) :: st) σ Q) := u_aload_n d129_637
theorem d129_638 : decode (mB 129) 638 = .ok (.invokestatic 102, 3) := by decide +kernel
theorem u129_638 {d : Nat} {ls : Lo} {st : List Va} {σ : Sg} {Q : Rs → Sg → Prop} {a1 a2 a3 a4 : Va} : Wx (d + 1) 129 638 ls (a4 :: a3 :: a2 :: a1 :: st) σ Q ↔ (st.length ≤ 4 ∧ nlg [a4, a3, a2, a1] = true) ∧ Wm d 138 [a1, a2, a3, a4] σ (Kc (d + 1) 129 641 ls st Q) := u_hlp4 d129_638 rfl rfl rfl rfl
theorem d129_641 : decode (mB 129) 641 = .ok (.istore 5, 2) := by decide +kernel
theorem u129_641 {d : Nat} {ls : Lo} {st : List Va} {σ : Sg} {Q : Rs → Sg → Prop} {z : Int} : Wx d 129 641 ls (vi z :: st) σ Q ↔ Wx d 129 643 (lset ls 5 (vi z)) st σ Q := u_istore d129_641 (by decide)
theorem d129_643 : decode (mB 129) 643 = .ok (.aload_n 2, 1) := by decide +kernel
theorem u129_643 {d : Nat} {ls : Lo} {st : List Va} {σ : Sg} {Q : Rs → Sg → Prop} : Wx d 129 643 ls st σ Q ↔ Lr (lget ls 2) (fun z => Wx d 129 644 ls (.inr (.inl z) :: st) σ Q) := u_aload_n d129_643
theorem d129_644 : decode (mB 129) 644 = .ok (.aload_n 0, 1) := by decide +kernel
theorem u129_644 {d : Nat} {ls : Lo} {st : List Va} {σ : Sg} {Q : Rs → Sg → Prop} : Wx d 129 644 ls st σ Q ↔ Lr (lget ls 0) (fun z => Wx d 129 645 ls (.inr (.inl z) :: st) σ Q) := u_aload_n d129_644
theorem d129_645 : decode (mB 129) 645 = .ok (.iload 4, 2) := by decide +kernel
theorem u129_645 {d : Nat} {ls : Lo} {st : List Va} {σ : Sg} {Q : Rs → Sg → Prop} : Wx d 129 645 ls st σ Q ↔ Li (lget ls 4) (fun z => Wx d 129 647 ls (vi z :: st) σ Q) := u_iload d129_645
theorem d129_647 : decode (mB 129) 647 = .ok (.iconst 1, 1) := by decide +kernel
theorem u129_647 {d : Nat} {ls : Lo} {st : List Va} {σ : Sg} {Q : Rs → Sg → Prop} : Wx d 129 647 ls st σ Q ↔ Wx d 129 648 ls (vi 1 :: st) σ Q := u_iconst d129_647
theorem d129_648 : decode (mB 129) 648 = .ok (.iadd, 1) := by decide +kernel
theorem u129_648 {d : Nat} {ls : Lo} {st : List Va} {σ : Sg} {Q : Rs → Sg → Prop} {a b : Int} : Wx d 129 648 ls (vi b :: vi a :: st) σ Q ↔ Wx d 129 649 ls (vi (a + b) :: st) σ Q := u_iadd d129_648
theorem d129_649 : decode (mB 129) 649 = .ok (.iaload, 1) := by decide +kernel
theorem u129_649 {d : Nat} {ls : Lo} {st : List Va} {σ : Sg} {Q : Rs → Sg → Prop} {z : Int} {g j : Nat} : Wx d 129 649 ls (vi z :: vr g j :: st) σ Q ↔ On (ial σ g j z) (fun x => Wx d 129 650 ls (vi x :: st) σ Q) := u_iald d129_649
theorem d129_650 : decode (mB 129) 650 = .ok (.aload_n 0, 1) := by decide +kernel
theorem u129_650 {d : Nat} {ls : Lo} {st : List Va} {σ : Sg} {Q : Rs → Sg → Prop} : Wx d 129 650 ls st σ Q ↔ Lr (lget ls 0) (fun z => Wx d 129 651 ls (.inr (.inl z) :: st) σ Q) := u_aload_n d129_650
theorem d129_651 : decode (mB 129) 651 = .ok (.iload 4, 2) := by decide +kernel
theorem u129_651 {d : Nat} {ls : Lo} {st : List Va} {σ : Sg} {Q : Rs → Sg → Prop} : Wx d 129 651 ls st σ Q ↔ Li (lget ls 4) (fun z => Wx d 129 653 ls (vi z :: st) σ Q) := u_iload d129_651
theorem d129_653 : decode (mB 129) 653 = .ok (.iconst 2, 1) := by decide +kernel
theorem u129_653 {d : Nat} {ls : Lo} {st : List Va} {σ : Sg} {Q : Rs → Sg → Prop} : Wx d 129 653 ls st σ Q ↔ Wx d 129 654 ls (vi 2 :: st) σ Q := u_iconst d129_653
theorem d129_654 : decode (mB 129) 654 = .ok (.iadd, 1) := by decide +kernel
theorem u129_654 {d : Nat} {ls : Lo} {st : List Va} {σ : Sg} {Q : Rs → Sg → Prop} {a b : Int} : Wx d 129 654 ls (vi b :: vi a :: st) σ Q ↔ Wx d 129 655 ls (vi (a + b) :: st) σ Q := u_iadd d129_654
theorem d129_655 : decode (mB 129) 655 = .ok (.iaload, 1) := by decide +kernel
theorem u129_655 {d : Nat} {ls : Lo} {st : List Va} {σ : Sg} {Q : Rs → Sg → Prop} {z : Int} {g j : Nat} : Wx d 129 655 ls (vi z :: vr g j :: st) σ Q ↔ On (ial σ g j z) (fun x => Wx d 129 656 ls (vi x :: st) σ Q) := u_iald d129_655
theorem d129_656 : decode (mB 129) 656 = .ok (.invokevirtual 104, 3) := by decide +kernel
theorem u129_656 {d : Nat} {ls : Lo} {st : List Va} {σ : Sg} {Q : Rs → Sg → Prop} {g j : Nat} {a1 a2 : Va} : Wx (d + 1) 129 656 ls (a2 :: a1 :: vr g j :: st) σ Q ↔ (isO g j 7 ∧ st.length ≤ 4 ∧ nlg [a2, a1] = true) ∧ Wm d 118 [vr g j, a1, a2] σ (Kc (d + 1) 129 659 ls st Q) := u_inv2 d129_656 rfl rfl rfl
theorem d129_659 : decode (mB 129) 659 = .ok (.istore 6, 2) := by decide +kernel
theorem u129_659 {d : Nat} {ls : Lo} {st : List Va} {σ : Sg} {Q : Rs → Sg → Prop} {z : Int} : Wx d 129 659 ls (vi z :: st) σ Q ↔ Wx d 129 661 (lset ls 6 (vi z)) st σ Q := u_istore d129_659 (by decide)
theorem d129_661 : decode (mB 129) 661 = .ok (.aload_n 2, 1) := by decide +kernel
theorem u129_661 {d : Nat} {ls : Lo} {st : List Va} {σ : Sg} {Q : Rs → Sg → Prop} : Wx d 129 661 ls st σ Q ↔ Lr (lget ls 2) (fun z => Wx d 129 662 ls (.inr (.inl z) :: st) σ Q) := u_aload_n d129_661
theorem d129_662 : decode (mB 129) 662 = .ok (.invokevirtual 72, 3) := by decide +kernel
theorem u129_662 {d : Nat} {ls : Lo} {st : List Va} {σ : Sg} {Q : Rs → Sg → Prop} {g j : Nat} : Wx (d + 1) 129 662 ls (vr g j :: st) σ Q ↔ (isO g j 7 ∧ st.length ≤ 4 ∧ nlg [] = true) ∧ Wm d 74 [vr g j] σ (Kc (d + 1) 129 665 ls st Q) := u_inv0 d129_662 rfl rfl rfl
theorem d129_665 : decode (mB 129) 665 = .ok (.iload 5, 2) := by decide +kernel
theorem u129_665 {d : Nat} {ls : Lo} {st : List Va} {σ : Sg} {Q : Rs → Sg → Prop} : Wx d 129 665 ls st σ Q ↔ Li (lget ls 5) (fun z => Wx d 129 667 ls (vi z :: st) σ Q) := u_iload d129_665
theorem d129_667 : decode (mB 129) 667 = .ok (.if_icmp .eq 5, 3) := by decide +kernel
theorem u129_667 {d : Nat} {ls : Lo} {st : List Va} {σ : Sg} {Q : Rs → Sg → Prop} {a b : Int} (h : -2147483648 ≤ a ∧ a ≤ 2147483647) (h2 : -2147483648 ≤ b ∧ b ≤ 2147483647) : Wx d 129 667 ls (vi b :: vi a :: st) σ Q ↔ if a = b then Wx d 129 672 ls st σ Q else Wx d 129 670 ls st σ Q := u_iceq d129_667 (by decide) h h2
theorem d129_670 : decode (mB 129) 670 = .ok (.iconst 0, 1) := by decide +kernel
theorem u129_670 {d : Nat} {ls : Lo} {st : List Va} {σ : Sg} {Q : Rs → Sg → Prop} : Wx d 129 670 ls st σ Q ↔ Wx d 129 671 ls (vi 0 :: st) σ Q := u_iconst d129_670
theorem d129_671 : decode (mB 129) 671 = .ok (.ireturn, 1) := by decide +kernel
theorem u129_671 {d : Nat} {ls : Lo} {σ : Sg} {Q : Rs → Sg → Prop} {z : Int} (h : z = 0 ∨ z = 1) : Wx d 129 671 ls [vi z] σ Q ↔ Q (.inl (some (vi z))) σ := u_zret d129_671 rfl h
theorem d129_672 : decode (mB 129) 672 = .ok (.iload 5, 2) := by decide +kernel
theorem u129_672 {d : Nat} {ls : Lo} {st : List Va} {σ : Sg} {Q : Rs → Sg → Prop} : Wx d 129 672 ls st σ Q ↔ Li (lget ls 5) (fun z => Wx d 129 674 ls (vi z :: st) σ Q) := u_iload d129_672
theorem d129_674 : decode (mB 129) 674 = .ok (.ifCond .ne 15, 3) := by decide +kernel
theorem u129_674 {d : Nat} {ls : Lo} {st : List Va} {σ : Sg} {Q : Rs → Sg → Prop} {a : Int} (h : -2147483648 ≤ a ∧ a ≤ 2147483647) : Wx d 129 674 ls (vi a :: st) σ Q ↔ if ¬ a = 0 then Wx d 129 689 ls st σ Q else Wx d 129 677 ls st σ Q := u_ifne d129_674 (by decide) h
theorem d129_677 : decode (mB 129) 677 = .ok (.aload_n 3, 1) := by decide +kernel
theorem u129_677 {d : Nat} {ls : Lo} {st : List Va} {σ : Sg} {Q : Rs → Sg → Prop} : Wx d 129 677 ls st σ Q ↔ Lr (lget ls 3) (fun z => Wx d 129 678 ls (.inr (.inl z) :: st) σ Q) := u_aload_n d129_677
theorem d129_678 : decode (mB 129) 678 = .ok (.iconst 0, 1) := by decide +kernel
theorem u129_678 {d : Nat} {ls : Lo} {st : List Va} {σ : Sg} {Q : Rs → Sg → Prop} : Wx d 129 678 ls st σ Q ↔ Wx d 129 679 ls (vi 0 :: st) σ Q := u_iconst d129_678
theorem d129_679 : decode (mB 129) 679 = .ok (.laload, 1) := by decide +kernel
theorem u129_679 {d : Nat} {ls : Lo} {st : List Va} {σ : Sg} {Q : Rs → Sg → Prop} {z : Int} {g j : Nat} : Wx d 129 679 ls (vi z :: vr g j :: st) σ Q ↔ isA g j 4 z ∧ Wx d 129 680 ls (vl (σ g j z.toNat) :: st) σ Q := u_lald d129_679
theorem d129_680 : decode (mB 129) 680 = .ok (.iload 6, 2) := by decide +kernel
theorem u129_680 {d : Nat} {ls : Lo} {st : List Va} {σ : Sg} {Q : Rs → Sg → Prop} : Wx d 129 680 ls st σ Q ↔ Li (lget ls 6) (fun z => Wx d 129 682 ls (vi z :: st) σ Q) := u_iload d129_680
theorem d129_682 : decode (mB 129) 682 = .ok (.i2l, 1) := by decide +kernel
theorem u129_682 {d : Nat} {ls : Lo} {st : List Va} {σ : Sg} {Q : Rs → Sg → Prop} {a : Int} (h : -2147483648 ≤ a ∧ a ≤ 2147483647) : Wx d 129 682 ls (vi a :: st) σ Q ↔ Wx d 129 683 ls (vl a :: st) σ Q := u_i2l d129_682 h
theorem d129_683 : decode (mB 129) 683 = .ok (.lcmp, 1) := by decide +kernel
theorem u129_683 {d : Nat} {ls : Lo} {st : List Va} {σ : Sg} {Q : Rs → Sg → Prop} {a b : Int} : Wx d 129 683 ls (vl b :: vl a :: st) σ Q ↔ Wx d 129 684 ls (vi (lg_cmp (i6 a) (i6 b)).toInt :: st) σ Q := u_lcmp d129_683
theorem d129_684 : decode (mB 129) 684 = .ok (.ifCond .eq 5, 3) := by decide +kernel
theorem u129_684 {d : Nat} {ls : Lo} {st : List Va} {σ : Sg} {Q : Rs → Sg → Prop} {a : Int} (h : -2147483648 ≤ a ∧ a ≤ 2147483647) : Wx d 129 684 ls (vi a :: st) σ Q ↔ if a = 0 then Wx d 129 689 ls st σ Q else Wx d 129 687 ls st σ Q := u_ifeq d129_684 (by decide) h
theorem d129_687 : decode (mB 129) 687 = .ok (.iconst 0, 1) := by decide +kernel
theorem u129_687 {d : Nat} {ls : Lo} {st : List Va} {σ : Sg} {Q : Rs → Sg → Prop} : Wx d 129 687 ls st σ Q ↔ Wx d 129 688 ls (vi 0 :: st) σ Q := u_iconst d129_687
theorem d129_688 : decode (mB 129) 688 = .ok (.ireturn, 1) := by decide +kernel
theorem u129_688 {d : Nat} {ls : Lo} {σ : Sg} {Q : Rs → Sg → Prop} {z : Int} (h : z = 0 ∨ z = 1) : Wx d 129 688 ls [vi z] σ Q ↔ Q (.inl (some (vi z))) σ := u_zret d129_688 rfl h
theorem d129_689 : decode (mB 129) 689 = .ok (.goto 231, 3) := by decide +kernel
theorem u129_689 {d : Nat} {ls : Lo} {st : List Va} {σ : Sg} {Q : Rs → Sg → Prop} : Wx d 129 689 ls st σ Q ↔ Wx d 129 920 ls st σ Q := u_goto d129_689 (by decide)
theorem d129_692 : decode (mB 129) 692 = .ok (.aload_n 1, 1) := by decide +kernel
theorem u129_692 {d : Nat} {ls : Lo} {st : List Va} {σ : Sg} {Q : Rs → Sg → Prop} : Wx d 129 692 ls st σ Q ↔ Lr (lget ls 1) (fun z => Wx d 129 693 ls (.inr (.inl z) :: st) σ Q) := u_aload_n d129_692
theorem d129_693 : decode (mB 129) 693 = .ok (.aload_n 0, 1) := by decide +kernel
theorem u129_693 {d : Nat} {ls : Lo} {st : List Va} {σ : Sg} {Q : Rs → Sg → Prop} : Wx d 129 693 ls st σ Q ↔ Lr (lget ls 0) (fun z => Wx d 129 694 ls (.inr (.inl z) :: st) σ Q) := u_aload_n d129_693
theorem d129_694 : decode (mB 129) 694 = .ok (.iload 4, 2) := by decide +kernel
theorem u129_694 {d : Nat} {ls : Lo} {st : List Va} {σ : Sg} {Q : Rs → Sg → Prop} : Wx d 129 694 ls st σ Q ↔ Li (lget ls 4) (fun z => Wx d 129 696 ls (vi z :: st) σ Q) := u_iload d129_694
theorem d129_696 : decode (mB 129) 696 = .ok (.iconst 1, 1) := by decide +kernel
theorem u129_696 {d : Nat} {ls : Lo} {st : List Va} {σ : Sg} {Q : Rs → Sg → Prop} : Wx d 129 696 ls st σ Q ↔ Wx d 129 697 ls (vi 1 :: st) σ Q := u_iconst d129_696
theorem d129_697 : decode (mB 129) 697 = .ok (.iadd, 1) := by decide +kernel
theorem u129_697 {d : Nat} {ls : Lo} {st : List Va} {σ : Sg} {Q : Rs → Sg → Prop} {a b : Int} : Wx d 129 697 ls (vi b :: vi a :: st) σ Q ↔ Wx d 129 698 ls (vi (a + b) :: st) σ Q := u_iadd d129_697
theorem d129_698 : decode (mB 129) 698 = .ok (.iaload, 1) := by decide +kernel
theorem u129_698 {d : Nat} {ls : Lo} {st : List Va} {σ : Sg} {Q : Rs → Sg → Prop} {z : Int} {g j : Nat} : Wx d 129 698 ls (vi z :: vr g j :: st) σ Q ↔ On (ial σ g j z) (fun x => Wx d 129 699 ls (vi x :: st) σ Q) := u_iald d129_698
theorem d129_699 : decode (mB 129) 699 = .ok (.aload_n 3, 1) := by decide +kernel
theorem u129_699 {d : Nat} {ls : Lo} {st : List Va} {σ : Sg} {Q : Rs → Sg → Prop} : Wx d 129 699 ls st σ Q ↔ Lr (lget ls 3) (fun z => Wx d 129 700 ls (.inr (.inl z) :: st) σ Q) := u_aload_n d129_699
theorem d129_700 : decode (mB 129) 700 = .ok (.invokestatic 105, 3) := by decide +kernel
theorem u129_700 {d : Nat} {ls : Lo} {st : List Va} {σ : Sg} {Q : Rs → Sg → Prop} {a1 a2 a3 : Va} : Wx (d + 1) 129 700 ls (a3 :: a2 :: a1 :: st) σ Q ↔ (st.length ≤ 4 ∧ nlg [a3, a2, a1] = true) ∧ Wm d 139 [a1, a2, a3] σ (Kc (d + 1) 129 703 ls st Q) := u_hlp3 d129_700 rfl rfl rfl rfl
theorem d129_703 : decode (mB 129) 703 = .ok (.istore 5, 2) := by decide +kernel
theorem u129_703 {d : Nat} {ls : Lo} {st : List Va} {σ : Sg} {Q : Rs → Sg → Prop} {z : Int} : Wx d 129 703 ls (vi z :: st) σ Q ↔ Wx d 129 705 (lset ls 5 (vi z)) st σ Q := u_istore d129_703 (by decide)
theorem d129_705 : decode (mB 129) 705 = .ok (.aload_n 2, 1) := by decide +kernel
theorem u129_705 {d : Nat} {ls : Lo} {st : List Va} {σ : Sg} {Q : Rs → Sg → Prop} : Wx d 129 705 ls st σ Q ↔ Lr (lget ls 2) (fun z => Wx d 129 706 ls (.inr (.inl z) :: st) σ Q) := u_aload_n d129_705
theorem d129_706 : decode (mB 129) 706 = .ok (.aload_n 0, 1) := by decide +kernel
theorem u129_706 {d : Nat} {ls : Lo} {st : List Va} {σ : Sg} {Q : Rs → Sg → Prop} : Wx d 129 706 ls st σ Q ↔ Lr (lget ls 0) (fun z => Wx d 129 707 ls (.inr (.inl z) :: st) σ Q) := u_aload_n d129_706
theorem d129_707 : decode (mB 129) 707 = .ok (.iload 4, 2) := by decide +kernel
theorem u129_707 {d : Nat} {ls : Lo} {st : List Va} {σ : Sg} {Q : Rs → Sg → Prop} : Wx d 129 707 ls st σ Q ↔ Li (lget ls 4) (fun z => Wx d 129 709 ls (vi z :: st) σ Q) := u_iload d129_707
theorem d129_709 : decode (mB 129) 709 = .ok (.iconst 1, 1) := by decide +kernel
theorem u129_709 {d : Nat} {ls : Lo} {st : List Va} {σ : Sg} {Q : Rs → Sg → Prop} : Wx d 129 709 ls st σ Q ↔ Wx d 129 710 ls (vi 1 :: st) σ Q := u_iconst d129_709
theorem d129_710 : decode (mB 129) 710 = .ok (.iadd, 1) := by decide +kernel
theorem u129_710 {d : Nat} {ls : Lo} {st : List Va} {σ : Sg} {Q : Rs → Sg → Prop} {a b : Int} : Wx d 129 710 ls (vi b :: vi a :: st) σ Q ↔ Wx d 129 711 ls (vi (a + b) :: st) σ Q := u_iadd d129_710
theorem d129_711 : decode (mB 129) 711 = .ok (.iaload, 1) := by decide +kernel
theorem u129_711 {d : Nat} {ls : Lo} {st : List Va} {σ : Sg} {Q : Rs → Sg → Prop} {z : Int} {g j : Nat} : Wx d 129 711 ls (vi z :: vr g j :: st) σ Q ↔ On (ial σ g j z) (fun x => Wx d 129 712 ls (vi x :: st) σ Q) := u_iald d129_711
theorem d129_712 : decode (mB 129) 712 = .ok (.invokevirtual 107, 3) := by decide +kernel
theorem u129_712 {d : Nat} {ls : Lo} {st : List Va} {σ : Sg} {Q : Rs → Sg → Prop} {g j : Nat} {a1 : Va} : Wx (d + 1) 129 712 ls (a1 :: vr g j :: st) σ Q ↔ (isO g j 7 ∧ st.length ≤ 4 ∧ nlg [a1] = true) ∧ Wm d 119 [vr g j, a1] σ (Kc (d + 1) 129 715 ls st Q) := u_inv1 d129_712 rfl rfl rfl
theorem d129_715 : decode (mB 129) 715 = .ok (.istore 6, 2) := by decide +kernel
theorem u129_715 {d : Nat} {ls : Lo} {st : List Va} {σ : Sg} {Q : Rs → Sg → Prop} {z : Int} : Wx d 129 715 ls (vi z :: st) σ Q ↔ Wx d 129 717 (lset ls 6 (vi z)) st σ Q := u_istore d129_715 (by decide)
theorem d129_717 : decode (mB 129) 717 = .ok (.aload_n 2, 1) := by decide +kernel
theorem u129_717 {d : Nat} {ls : Lo} {st : List Va} {σ : Sg} {Q : Rs → Sg → Prop} : Wx d 129 717 ls st σ Q ↔ Lr (lget ls 2) (fun z => Wx d 129 718 ls (.inr (.inl z) :: st) σ Q) := u_aload_n d129_717
theorem d129_718 : decode (mB 129) 718 = .ok (.invokevirtual 72, 3) := by decide +kernel
theorem u129_718 {d : Nat} {ls : Lo} {st : List Va} {σ : Sg} {Q : Rs → Sg → Prop} {g j : Nat} : Wx (d + 1) 129 718 ls (vr g j :: st) σ Q ↔ (isO g j 7 ∧ st.length ≤ 4 ∧ nlg [] = true) ∧ Wm d 74 [vr g j] σ (Kc (d + 1) 129 721 ls st Q) := u_inv0 d129_718 rfl rfl rfl
theorem d129_721 : decode (mB 129) 721 = .ok (.iload 5, 2) := by decide +kernel
theorem u129_721 {d : Nat} {ls : Lo} {st : List Va} {σ : Sg} {Q : Rs → Sg → Prop} : Wx d 129 721 ls st σ Q ↔ Li (lget ls 5) (fun z => Wx d 129 723 ls (vi z :: st) σ Q) := u_iload d129_721
theorem d129_723 : decode (mB 129) 723 = .ok (.if_icmp .eq 5, 3) := by decide +kernel
theorem u129_723 {d : Nat} {ls : Lo} {st : List Va} {σ : Sg} {Q : Rs → Sg → Prop} {a b : Int} (h : -2147483648 ≤ a ∧ a ≤ 2147483647) (h2 : -2147483648 ≤ b ∧ b ≤ 2147483647) : Wx d 129 723 ls (vi b :: vi a :: st) σ Q ↔ if a = b then Wx d 129 728 ls st σ Q else Wx d 129 726 ls st σ Q := u_iceq d129_723 (by decide) h h2
theorem d129_726 : decode (mB 129) 726 = .ok (.iconst 0, 1) := by decide +kernel
theorem u129_726 {d : Nat} {ls : Lo} {st : List Va} {σ : Sg} {Q : Rs → Sg → Prop} : Wx d 129 726 ls st σ Q ↔ Wx d 129 727 ls (vi 0 :: st) σ Q := u_iconst d129_726
theorem d129_727 : decode (mB 129) 727 = .ok (.ireturn, 1) := by decide +kernel
theorem u129_727 {d : Nat} {ls : Lo} {σ : Sg} {Q : Rs → Sg → Prop} {z : Int} (h : z = 0 ∨ z = 1) : Wx d 129 727 ls [vi z] σ Q ↔ Q (.inl (some (vi z))) σ := u_zret d129_727 rfl h
theorem d129_728 : decode (mB 129) 728 = .ok (.iload 5, 2) := by decide +kernel
theorem u129_728 {d : Nat} {ls : Lo} {st : List Va} {σ : Sg} {Q : Rs → Sg → Prop} : Wx d 129 728 ls st σ Q ↔ Li (lget ls 5) (fun z => Wx d 129 730 ls (vi z :: st) σ Q) := u_iload d129_728
theorem d129_730 : decode (mB 129) 730 = .ok (.ifCond .ne 15, 3) := by decide +kernel
theorem u129_730 {d : Nat} {ls : Lo} {st : List Va} {σ : Sg} {Q : Rs → Sg → Prop} {a : Int} (h : -2147483648 ≤ a ∧ a ≤ 2147483647) : Wx d 129 730 ls (vi a :: st) σ Q ↔ if ¬ a = 0 then Wx d 129 745 ls st σ Q else Wx d 129 733 ls st σ Q := u_ifne d129_730 (by decide) h
theorem d129_733 : decode (mB 129) 733 = .ok (.aload_n 3, 1) := by decide +kernel
theorem u129_733 {d : Nat} {ls : Lo} {st : List Va} {σ : Sg} {Q : Rs → Sg → Prop} : Wx d 129 733 ls st σ Q ↔ Lr (lget ls 3) (fun z => Wx d 129 734 ls (.inr (.inl z) :: st) σ Q) := u_aload_n d129_733
theorem d129_734 : decode (mB 129) 734 = .ok (.iconst 0, 1) := by decide +kernel
theorem u129_734 {d : Nat} {ls : Lo} {st : List Va} {σ : Sg} {Q : Rs → Sg → Prop} : Wx d 129 734 ls st σ Q ↔ Wx d 129 735 ls (vi 0 :: st) σ Q := u_iconst d129_734
theorem d129_735 : decode (mB 129) 735 = .ok (.laload, 1) := by decide +kernel
theorem u129_735 {d : Nat} {ls : Lo} {st : List Va} {σ : Sg} {Q : Rs → Sg → Prop} {z : Int} {g j : Nat} : Wx d 129 735 ls (vi z :: vr g j :: st) σ Q ↔ isA g j 4 z ∧ Wx d 129 736 ls (vl (σ g j z.toNat) :: st) σ Q := u_lald d129_735
theorem d129_736 : decode (mB 129) 736 = .ok (.iload 6, 2) := by decide +kernel
theorem u129_736 {d : Nat} {ls : Lo} {st : List Va} {σ : Sg} {Q : Rs → Sg → Prop} : Wx d 129 736 ls st σ Q ↔ Li (lget ls 6) (fun z => Wx d 129 738 ls (vi z :: st) σ Q) := u_iload d129_736
theorem d129_738 : decode (mB 129) 738 = .ok (.i2l, 1) := by decide +kernel
theorem u129_738 {d : Nat} {ls : Lo} {st : List Va} {σ : Sg} {Q : Rs → Sg → Prop} {a : Int} (h : -2147483648 ≤ a ∧ a ≤ 2147483647) : Wx d 129 738 ls (vi a :: st) σ Q ↔ Wx d 129 739 ls (vl a :: st) σ Q := u_i2l d129_738 h
theorem d129_739 : decode (mB 129) 739 = .ok (.lcmp, 1) := by decide +kernel
theorem u129_739 {d : Nat} {ls : Lo} {st : List Va} {σ : Sg} {Q : Rs → Sg → Prop} {a b : Int} : Wx d 129 739 ls (vl b :: vl a :: st) σ Q ↔ Wx d 129 740 ls (vi (lg_cmp (i6 a) (i6 b)).toInt :: st) σ Q := u_lcmp d129_739
theorem d129_740 : decode (mB 129) 740 = .ok (.ifCond .eq 5, 3) := by decide +kernel
theorem u129_740 {d : Nat} {ls : Lo} {st : List Va} {σ : Sg} {Q : Rs → Sg → Prop} {a : Int} (h : -2147483648 ≤ a ∧ a ≤ 2147483647) : Wx d 129 740 ls (vi a :: st) σ Q ↔ if a = 0 then Wx d 129 745 ls st σ Q else Wx d 129 743 ls st σ Q := u_ifeq d129_740 (by decide) h
theorem d129_743 : decode (mB 129) 743 = .ok (.iconst 0, 1) := by decide +kernel
theorem u129_743 {d : Nat} {ls : Lo} {st : List Va} {σ : Sg} {Q : Rs → Sg → Prop} : Wx d 129 743 ls st σ Q ↔ Wx d 129 744 ls (vi 0 :: st) σ Q := u_iconst d129_743
theorem d129_744 : decode (mB 129) 744 = .ok (.ireturn, 1) := by decide +kernel
theorem u129_744 {d : Nat} {ls : Lo} {σ : Sg} {Q : Rs → Sg → Prop} {z : Int} (h : z = 0 ∨ z = 1) : Wx d 129 744 ls [vi z] σ Q ↔ Q (.inl (some (vi z))) σ := u_zret d129_744 rfl h
theorem d129_745 : decode (mB 129) 745 = .ok (.goto 175, 3) := by decide +kernel
theorem u129_745 {d : Nat} {ls : Lo} {st : List Va} {σ : Sg} {Q : Rs → Sg → Prop} : Wx d 129 745 ls st σ Q ↔ Wx d 129 920 ls st σ Q := u_goto d129_745 (by decide)
theorem d129_748 : decode (mB 129) 748 = .ok (.aload_n 1, 1) := by decide +kernel
theorem u129_748 {d : Nat} {ls : Lo} {st : List Va} {σ : Sg} {Q : Rs → Sg → Prop} : Wx d 129 748 ls st σ Q ↔ Lr (lget ls 1) (fun z => Wx d 129 749 ls (.inr (.inl z) :: st) σ Q) := u_aload_n d129_748
theorem d129_749 : decode (mB 129) 749 = .ok (.aload_n 0, 1) := by decide +kernel
theorem u129_749 {d : Nat} {ls : Lo} {st : List Va} {σ : Sg} {Q : Rs → Sg → Prop} : Wx d 129 749 ls st σ Q ↔ Lr (lget ls 0) (fun z => Wx d 129 750 ls (.inr (.inl z) :: st) σ Q) := u_aload_n d129_749
theorem d129_750 : decode (mB 129) 750 = .ok (.iload 4, 2) := by decide +kernel
theorem u129_750 {d : Nat} {ls : Lo} {st : List Va} {σ : Sg} {Q : Rs → Sg → Prop} : Wx d 129 750 ls st σ Q ↔ Li (lget ls 4) (fun z => Wx d 129 752 ls (vi z :: st) σ Q) := u_iload d129_750
theorem d129_752 : decode (mB 129) 752 = .ok (.iconst 1, 1) := by decide +kernel
theorem u129_752 {d : Nat} {ls : Lo} {st : List Va} {σ : Sg} {Q : Rs → Sg → Prop} : Wx d 129 752 ls st σ Q ↔ Wx d 129 753 ls (vi 1 :: st) σ Q := u_iconst d129_752
theorem d129_753 : decode (mB 129) 753 = .ok (.iadd, 1) := by decide +kernel
theorem u129_753 {d : Nat} {ls : Lo} {st : List Va} {σ : Sg} {Q : Rs → Sg → Prop} {a b : Int} : Wx d 129 753 ls (vi b :: vi a :: st) σ Q ↔ Wx d 129 754 ls (vi (a + b) :: st) σ Q := u_iadd d129_753
theorem d129_754 : decode (mB 129) 754 = .ok (.iaload, 1) := by decide +kernel
theorem u129_754 {d : Nat} {ls : Lo} {st : List Va} {σ : Sg} {Q : Rs → Sg → Prop} {z : Int} {g j : Nat} : Wx d 129 754 ls (vi z :: vr g j :: st) σ Q ↔ On (ial σ g j z) (fun x => Wx d 129 755 ls (vi x :: st) σ Q) := u_iald d129_754
theorem d129_755 : decode (mB 129) 755 = .ok (.aload_n 0, 1) := by decide +kernel
theorem u129_755 {d : Nat} {ls : Lo} {st : List Va} {σ : Sg} {Q : Rs → Sg → Prop} : Wx d 129 755 ls st σ Q ↔ Lr (lget ls 0) (fun z => Wx d 129 756 ls (.inr (.inl z) :: st) σ Q) := u_aload_n d129_755
theorem d129_756 : decode (mB 129) 756 = .ok (.iload 4, 2) := by decide +kernel
theorem u129_756 {d : Nat} {ls : Lo} {st : List Va} {σ : Sg} {Q : Rs → Sg → Prop} : Wx d 129 756 ls st σ Q ↔ Li (lget ls 4) (fun z => Wx d 129 758 ls (vi z :: st) σ Q) := u_iload d129_756
theorem d129_758 : decode (mB 129) 758 = .ok (.iconst 2, 1) := by decide +kernel
theorem u129_758 {d : Nat} {ls : Lo} {st : List Va} {σ : Sg} {Q : Rs → Sg → Prop} : Wx d 129 758 ls st σ Q ↔ Wx d 129 759 ls (vi 2 :: st) σ Q := u_iconst d129_758
theorem d129_759 : decode (mB 129) 759 = .ok (.iadd, 1) := by decide +kernel
theorem u129_759 {d : Nat} {ls : Lo} {st : List Va} {σ : Sg} {Q : Rs → Sg → Prop} {a b : Int} : Wx d 129 759 ls (vi b :: vi a :: st) σ Q ↔ Wx d 129 760 ls (vi (a + b) :: st) σ Q := u_iadd d129_759
theorem d129_760 : decode (mB 129) 760 = .ok (.iaload, 1) := by decide +kernel
theorem u129_760 {d : Nat} {ls : Lo} {st : List Va} {σ : Sg} {Q : Rs → Sg → Prop} {z : Int} {g j : Nat} : Wx d 129 760 ls (vi z :: vr g j :: st) σ Q ↔ On (ial σ g j z) (fun x => Wx d 129 761 ls (vi x :: st) σ Q) := u_iald d129_760
theorem d129_761 : decode (mB 129) 761 = .ok (.aload_n 0, 1) := by decide +kernel
theorem u129_761 {d : Nat} {ls : Lo} {st : List Va} {σ : Sg} {Q : Rs → Sg → Prop} : Wx d 129 761 ls st σ Q ↔ Lr (lget ls 0) (fun z => Wx d 129 762 ls (.inr (.inl z) :: st) σ Q) := u_aload_n d129_761
theorem d129_762 : decode (mB 129) 762 = .ok (.iload 4, 2) := by decide +kernel
theorem u129_762 {d : Nat} {ls : Lo} {st : List Va} {σ : Sg} {Q : Rs → Sg → Prop} : Wx d 129 762 ls st σ Q ↔ Li (lget ls 4) (fun z => Wx d 129 764 ls (vi z :: st) σ Q) := u_iload d129_762
theorem d129_764 : decode (mB 129) 764 = .ok (.iconst 3, 1) := by decide +kernel
theorem u129_764 {d : Nat} {ls : Lo} {st : List Va} {σ : Sg} {Q : Rs → Sg → Prop} : Wx d 129 764 ls st σ Q ↔ Wx d 129 765 ls (vi 3 :: st) σ Q := u_iconst d129_764
theorem d129_765 : decode (mB 129) 765 = .ok (.iadd, 1) := by decide +kernel
theorem u129_765 {d : Nat} {ls : Lo} {st : List Va} {σ : Sg} {Q : Rs → Sg → Prop} {a b : Int} : Wx d 129 765 ls (vi b :: vi a :: st) σ Q ↔ Wx d 129 766 ls (vi (a + b) :: st) σ Q := u_iadd d129_765
theorem d129_766 : decode (mB 129) 766 = .ok (.iaload, 1) := by decide +kernel
theorem u129_766 {d : Nat} {ls : Lo} {st : List Va} {σ : Sg} {Q : Rs → Sg → Prop} {z : Int} {g j : Nat} : Wx d 129 766 ls (vi z :: vr g j :: st) σ Q ↔ On (ial σ g j z) (fun x => Wx d 129 767 ls (vi x :: st) σ Q) := u_iald d129_766
theorem d129_767 : decode (mB 129) 767 = .ok (.invokestatic 108, 3) := by decide +kernel
theorem u129_767 {d : Nat} {ls : Lo} {st : List Va} {σ : Sg} {Q : Rs → Sg → Prop} {a1 a2 a3 a4 : Va} : Wx (d + 1) 129 767 ls (a4 :: a3 :: a2 :: a1 :: st) σ Q ↔ (st.length ≤ 4 ∧ nlg [a4, a3, a2, a1] = true) ∧ Wm d 140 [a1, a2, a3, a4] σ (Kc (d + 1) 129 770 ls st Q) := u_hlp4 d129_767 rfl rfl rfl rfl
theorem d129_770 : decode (mB 129) 770 = .ok (.istore 5, 2) := by decide +kernel
theorem u129_770 {d : Nat} {ls : Lo} {st : List Va} {σ : Sg} {Q : Rs → Sg → Prop} {z : Int} : Wx d 129 770 ls (vi z :: st) σ Q ↔ Wx d 129 772 (lset ls 5 (vi z)) st σ Q := u_istore d129_770 (by decide)
theorem d129_772 : decode (mB 129) 772 = .ok (.aload_n 2, 1) := by decide +kernel
theorem u129_772 {d : Nat} {ls : Lo} {st : List Va} {σ : Sg} {Q : Rs → Sg → Prop} : Wx d 129 772 ls st σ Q ↔ Lr (lget ls 2) (fun z => Wx d 129 773 ls (.inr (.inl z) :: st) σ Q) := u_aload_n d129_772
theorem d129_773 : decode (mB 129) 773 = .ok (.aload_n 0, 1) := by decide +kernel
theorem u129_773 {d : Nat} {ls : Lo} {st : List Va} {σ : Sg} {Q : Rs → Sg → Prop} : Wx d 129 773 ls st σ Q ↔ Lr (lget ls 0) (fun z => Wx d 129 774 ls (.inr (.inl z) :: st) σ Q) := u_aload_n d129_773
theorem d129_774 : decode (mB 129) 774 = .ok (.iload 4, 2) := by decide +kernel
theorem u129_774 {d : Nat} {ls : Lo} {st : List Va} {σ : Sg} {Q : Rs → Sg → Prop} : Wx d 129 774 ls st σ Q ↔ Li (lget ls 4) (fun z => Wx d 129 776 ls (vi z :: st) σ Q) := u_iload d129_774
theorem d129_776 : decode (mB 129) 776 = .ok (.iconst 1, 1) := by decide +kernel
theorem u129_776 {d : Nat} {ls : Lo} {st : List Va} {σ : Sg} {Q : Rs → Sg → Prop} : Wx d 129 776 ls st σ Q ↔ Wx d 129 777 ls (vi 1 :: st) σ Q := u_iconst d129_776
theorem d129_777 : decode (mB 129) 777 = .ok (.iadd, 1) := by decide +kernel
theorem u129_777 {d : Nat} {ls : Lo} {st : List Va} {σ : Sg} {Q : Rs → Sg → Prop} {a b : Int} : Wx d 129 777 ls (vi b :: vi a :: st) σ Q ↔ Wx d 129 778 ls (vi (a + b) :: st) σ Q := u_iadd d129_777
theorem d129_778 : decode (mB 129) 778 = .ok (.iaload, 1) := by decide +kernel
theorem u129_778 {d : Nat} {ls : Lo} {st : List Va} {σ : Sg} {Q : Rs → Sg → Prop} {z : Int} {g j : Nat} : Wx d 129 778 ls (vi z :: vr g j :: st) σ Q ↔ On (ial σ g j z) (fun x => Wx d 129 779 ls (vi x :: st) σ Q) := u_iald d129_778
theorem d129_779 : decode (mB 129) 779 = .ok (.aload_n 0, 1) := by decide +kernel
theorem u129_779 {d : Nat} {ls : Lo} {st : List Va} {σ : Sg} {Q : Rs → Sg → Prop} : Wx d 129 779 ls st σ Q ↔ Lr (lget ls 0) (fun z => Wx d 129 780 ls (.inr (.inl z) :: st) σ Q) := u_aload_n d129_779
theorem d129_780 : decode (mB 129) 780 = .ok (.iload 4, 2) := by decide +kernel
theorem u129_780 {d : Nat} {ls : Lo} {st : List Va} {σ : Sg} {Q : Rs → Sg → Prop} : Wx d 129 780 ls st σ Q ↔ Li (lget ls 4) (fun z => Wx d 129 782 ls (vi z :: st) σ Q) := u_iload d129_780
theorem d129_782 : decode (mB 129) 782 = .ok (.iconst 2, 1) := by decide +kernel
theorem u129_782 {d : Nat} {ls : Lo} {st : List Va} {σ : Sg} {Q : Rs → Sg → Prop} : Wx d 129 782 ls st σ Q ↔ Wx d 129 783 ls (vi 2 :: st) σ Q := u_iconst d129_782
theorem d129_783 : decode (mB 129) 783 = .ok (.iadd, 1) := by decide +kernel
theorem u129_783 {d : Nat} {ls : Lo} {st : List Va} {σ : Sg} {Q : Rs → Sg → Prop} {a b : Int} : Wx d 129 783 ls (vi b :: vi a :: st) σ Q ↔ Wx d 129 784 ls (vi (a + b) :: st) σ Q := u_iadd d129_783
theorem d129_784 : decode (mB 129) 784 = .ok (.iaload, 1) := by decide +kernel
theorem u129_784 {d : Nat} {ls : Lo} {st : List Va} {σ : Sg} {Q : Rs → Sg → Prop} {z : Int} {g j : Nat} : Wx d 129 784 ls (vi z :: vr g j :: st) σ Q ↔ On (ial σ g j z) (fun x => Wx d 129 785 ls (vi x :: st) σ Q) := u_iald d129_784
theorem d129_785 : decode (mB 129) 785 = .ok (.aload_n 0, 1) := by decide +kernel
theorem u129_785 {d : Nat} {ls : Lo} {st : List Va} {σ : Sg} {Q : Rs → Sg → Prop} : Wx d 129 785 ls st σ Q ↔ Lr (lget ls 0) (fun z => Wx d 129 786 ls (.inr (.inl z) :: st) σ Q) := u_aload_n d129_785
theorem d129_786 : decode (mB 129) 786 = .ok (.iload 4, 2) := by decide +kernel
theorem u129_786 {d : Nat} {ls : Lo} {st : List Va} {σ : Sg} {Q : Rs → Sg → Prop} : Wx d 129 786 ls st σ Q ↔ Li (lget ls 4) (fun z => Wx d 129 788 ls (vi z :: st) σ Q) := u_iload d129_786
theorem d129_788 : decode (mB 129) 788 = .ok (.iconst 3, 1) := by decide +kernel
theorem u129_788 {d : Nat} {ls : Lo} {st : List Va} {σ : Sg} {Q : Rs → Sg → Prop} : Wx d 129 788 ls st σ Q ↔ Wx d 129 789 ls (vi 3 :: st) σ Q := u_iconst d129_788
theorem d129_789 : decode (mB 129) 789 = .ok (.iadd, 1) := by decide +kernel
theorem u129_789 {d : Nat} {ls : Lo} {st : List Va} {σ : Sg} {Q : Rs → Sg → Prop} {a b : Int} : Wx d 129 789 ls (vi b :: vi a :: st) σ Q ↔ Wx d 129 790 ls (vi (a + b) :: st) σ Q := u_iadd d129_789
theorem d129_790 : decode (mB 129) 790 = .ok (.iaload, 1) := by decide +kernel
theorem u129_790 {d : Nat} {ls : Lo} {st : List Va} {σ : Sg} {Q : Rs → Sg → Prop} {z : Int} {g j : Nat} : Wx d 129 790 ls (vi z :: vr g j :: st) σ Q ↔ On (ial σ g j z) (fun x => Wx d 129 791 ls (vi x :: st) σ Q) := u_iald d129_790
theorem d129_791 : decode (mB 129) 791 = .ok (.invokevirtual 111, 3) := by decide +kernel
theorem u129_791 {d : Nat} {ls : Lo} {st : List Va} {σ : Sg} {Q : Rs → Sg → Prop} {g j : Nat} {a1 a2 a3 : Va} : Wx (d + 1) 129 791 ls (a3 :: a2 :: a1 :: vr g j :: st) σ Q ↔ (isO g j 7 ∧ st.length ≤ 4 ∧ nlg [a3, a2, a1] = true) ∧ Wm d 120 [vr g j, a1, a2, a3] σ (Kc (d + 1) 129 794 ls st Q) := u_inv3 d129_791 rfl rfl rfl
theorem d129_794 : decode (mB 129) 794 = .ok (.aload_n 2, 1) := by decide +kernel
theorem u129_794 {d : Nat} {ls : Lo} {st : List Va} {σ : Sg} {Q : Rs → Sg → Prop} : Wx d 129 794 ls st σ Q ↔ Lr (lget ls 2) (fun z => Wx d 129 795 ls (.inr (.inl z) :: st) σ Q) := u_aload_n d129_794
theorem d129_795 : decode (mB 129) 795 = .ok (.invokevirtual 72, 3) := by decide +kernel
theorem u129_795 {d : Nat} {ls : Lo} {st : List Va} {σ : Sg} {Q : Rs → Sg → Prop} {g j : Nat} : Wx (d + 1) 129 795 ls (vr g j :: st) σ Q ↔ (isO g j 7 ∧ st.length ≤ 4 ∧ nlg [] = true) ∧ Wm d 74 [vr g j] σ (Kc (d + 1) 129 798 ls st Q) := u_inv0 d129_795 rfl rfl rfl
theorem d129_798 : decode (mB 129) 798 = .ok (.iload 5, 2) := by decide +kernel
theorem u129_798 {d : Nat} {ls : Lo} {st : List Va} {σ : Sg} {Q : Rs → Sg → Prop} : Wx d 129 798 ls st σ Q ↔ Li (lget ls 5) (fun z => Wx d 129 800 ls (vi z :: st) σ Q) := u_iload d129_798
theorem d129_800 : decode (mB 129) 800 = .ok (.if_icmp .eq 5, 3) := by decide +kernel
theorem u129_800 {d : Nat} {ls : Lo} {st : List Va} {σ : Sg} {Q : Rs → Sg → Prop} {a b : Int} (h : -2147483648 ≤ a ∧ a ≤ 2147483647) (h2 : -2147483648 ≤ b ∧ b ≤ 2147483647) : Wx d 129 800 ls (vi b :: vi a :: st) σ Q ↔ if a = b then Wx d 129 805 ls st σ Q else Wx d 129 803 ls st σ Q := u_iceq d129_800 (by decide) h h2
theorem d129_803 : decode (mB 129) 803 = .ok (.iconst 0, 1) := by decide +kernel
theorem u129_803 {d : Nat} {ls : Lo} {st : List Va} {σ : Sg} {Q : Rs → Sg → Prop} : Wx d 129 803 ls st σ Q ↔ Wx d 129 804 ls (vi 0 :: st) σ Q := u_iconst d129_803
theorem d129_804 : decode (mB 129) 804 = .ok (.ireturn, 1) := by decide +kernel
theorem u129_804 {d : Nat} {ls : Lo} {σ : Sg} {Q : Rs → Sg → Prop} {z : Int} (h : z = 0 ∨ z = 1) : Wx d 129 804 ls [vi z] σ Q ↔ Q (.inl (some (vi z))) σ := u_zret d129_804 rfl h
theorem d129_805 : decode (mB 129) 805 = .ok (.goto 115, 3) := by decide +kernel
theorem u129_805 {d : Nat} {ls : Lo} {st : List Va} {σ : Sg} {Q : Rs → Sg → Prop} : Wx d 129 805 ls st σ Q ↔ Wx d 129 920 ls st σ Q := u_goto d129_805 (by decide)
theorem d129_808 : decode (mB 129) 808 = .ok (.aload_n 1, 1) := by decide +kernel
theorem u129_808 {d : Nat} {ls : Lo} {st : List Va} {σ : Sg} {Q : Rs → Sg → Prop} : Wx d 129 808 ls st σ Q ↔ Lr (lget ls 1) (fun z => Wx d 129 809 ls (.inr (.inl z) :: st) σ Q) := u_aload_n d129_808
theorem d129_809 : decode (mB 129) 809 = .ok (.aload_n 3, 1) := by decide +kernel
theorem u129_809 {d : Nat} {ls : Lo} {st : List Va} {σ : Sg} {Q : Rs → Sg → Prop} : Wx d 129 809 ls st σ Q ↔ Lr (lget ls 3) (fun z => Wx d 129 810 ls (.inr (.inl z) :: st) σ Q) := u_aload_n d129_809
theorem d129_810 : decode (mB 129) 810 = .ok (.invokestatic 112, 3) := by decide +kernel
theorem u129_810 {d : Nat} {ls : Lo} {st : List Va} {σ : Sg} {Q : Rs → Sg → Prop} {a1 a2 : Va} : Wx (d + 1) 129 810 ls (a2 :: a1 :: st) σ Q ↔ (st.length ≤ 4 ∧ nlg [a2, a1] = true) ∧ Wm d 141 [a1, a2] σ (Kc (d + 1) 129 813 ls st Q) := u_hlp2 d129_810 rfl rfl rfl rfl
theorem d129_813 : decode (mB 129) 813 = .ok (.istore 5, 2) := by decide +kernel
theorem u129_813 {d : Nat} {ls : Lo} {st : List Va} {σ : Sg} {Q : Rs → Sg → Prop} {z : Int} : Wx d 129 813 ls (vi z :: st) σ Q ↔ Wx d 129 815 (lset ls 5 (vi z)) st σ Q := u_istore d129_813 (by decide)
theorem d129_815 : decode (mB 129) 815 = .ok (.aload_n 2, 1) := by decide +kernel
theorem u129_815 {d : Nat} {ls : Lo} {st : List Va} {σ : Sg} {Q : Rs → Sg → Prop} : Wx d 129 815 ls st σ Q ↔ Lr (lget ls 2) (fun z => Wx d 129 816 ls (.inr (.inl z) :: st) σ Q) := u_aload_n d129_815
theorem d129_816 : decode (mB 129) 816 = .ok (.invokevirtual 114, 3) := by decide +kernel
theorem u129_816 {d : Nat} {ls : Lo} {st : List Va} {σ : Sg} {Q : Rs → Sg → Prop} {g j : Nat} : Wx (d + 1) 129 816 ls (vr g j :: st) σ Q ↔ (isO g j 7 ∧ st.length ≤ 4 ∧ nlg [] = true) ∧ Wm d 126 [vr g j] σ (Kc (d + 1) 129 819 ls st Q) := u_inv0 d129_816 rfl rfl rfl
theorem d129_819 : decode (mB 129) 819 = .ok (.istore 6, 2) := by decide +kernel
theorem u129_819 {d : Nat} {ls : Lo} {st : List Va} {σ : Sg} {Q : Rs → Sg → Prop} {z : Int} : Wx d 129 819 ls (vi z :: st) σ Q ↔ Wx d 129 821 (lset ls 6 (vi z)) st σ Q := u_istore d129_819 (by decide)
theorem d129_821 : decode (mB 129) 821 = .ok (.aload_n 2, 1) := by decide +kernel
theorem u129_821 {d : Nat} {ls : Lo} {st : List Va} {σ : Sg} {Q : Rs → Sg → Prop} : Wx d 129 821 ls st σ Q ↔ Lr (lget ls 2) (fun z => Wx d 129 822 ls (.inr (.inl z) :: st) σ Q) := u_aload_n d129_821
theorem d129_822 : decode (mB 129) 822 = .ok (.invokevirtual 72, 3) := by decide +kernel
theorem u129_822 {d : Nat} {ls : Lo} {st : List Va} {σ : Sg} {Q : Rs → Sg → Prop} {g j : Nat} : Wx (d + 1) 129 822 ls (vr g j :: st) σ Q ↔ (isO g j 7 ∧ st.length ≤ 4 ∧ nlg [] = true) ∧ Wm d 74 [vr g j] σ (Kc (d + 1) 129 825 ls st Q) := u_inv0 d129_822 rfl rfl rfl
theorem d129_825 : decode (mB 129) 825 = .ok (.iload 5, 2) := by decide +kernel
theorem u129_825 {d : Nat} {ls : Lo} {st : List Va} {σ : Sg} {Q : Rs → Sg → Prop} : Wx d 129 825 ls st σ Q ↔ Li (lget ls 5) (fun z => Wx d 129 827 ls (vi z :: st) σ Q) := u_iload d129_825
theorem d129_827 : decode (mB 129) 827 = .ok (.if_icmp .eq 5, 3) := by decide +kernel
theorem u129_827 {d : Nat} {ls : Lo} {st : List Va} {σ : Sg} {Q : Rs → Sg → Prop} {a b : Int} (h : -2147483648 ≤ a ∧ a ≤ 2147483647) (h2 : -2147483648 ≤ b ∧ b ≤ 2147483647) : Wx d 129 827 ls (vi b :: vi a :: st) σ Q ↔ if a = b then Wx d 129 832 ls st σ Q else Wx d 129 830 ls st σ Q := u_iceq d129_827 (by decide) h h2
theorem d129_830 : decode (mB 129) 830 = .ok (.iconst 0, 1) := by decide +kernel
theorem u129_830 {d : Nat} {ls : Lo} {st : List Va} {σ : Sg} {Q : Rs → Sg → Prop} : Wx d 129 830 ls st σ Q ↔ Wx d 129 831 ls (vi 0 :: st) σ Q := u_iconst d129_830
theorem d129_831 : decode (mB 129) 831 = .ok (.ireturn, 1) := by decide +kernel
theorem u129_831 {d : Nat} {ls : Lo} {σ : Sg} {Q : Rs → Sg → Prop} {z : Int} (h : z = 0 ∨ z = 1) : Wx d 129 831 ls [vi z] σ Q ↔ Q (.inl (some (vi z))) σ := u_zret d129_831 rfl h
theorem d129_832 : decode (mB 129) 832 = .ok (.iload 5, 2) := by decide +kernel
theorem u129_832 {d : Nat} {ls : Lo} {st : List Va} {σ : Sg} {Q : Rs → Sg → Prop} : Wx d 129 832 ls st σ Q ↔ Li (lget ls 5) (fun z => Wx d 129 834 ls (vi z :: st) σ Q) := u_iload d129_832
theorem d129_834 : decode (mB 129) 834 = .ok (.ifCond .ne 15, 3) := by decide +kernel
theorem u129_834 {d : Nat} {ls : Lo} {st : List Va} {σ : Sg} {Q : Rs → Sg → Prop} {a : Int} (h : -2147483648 ≤ a ∧ a ≤ 2147483647) : Wx d 129 834 ls (vi a :: st) σ Q ↔ if ¬ a = 0 then Wx d 129 849 ls st σ Q else Wx d 129 837 ls st σ Q := u_ifne d129_834 (by decide) h
theorem d129_837 : decode (mB 129) 837 = .ok (.aload_n 3, 1) := by decide +kernel
theorem u129_837 {d : Nat} {ls : Lo} {st : List Va} {σ : Sg} {Q : Rs → Sg → Prop} : Wx d 129 837 ls st σ Q ↔ Lr (lget ls 3) (fun z => Wx d 129 838 ls (.inr (.inl z) :: st) σ Q) := u_aload_n d129_837
theorem d129_838 : decode (mB 129) 838 = .ok (.iconst 0, 1) := by decide +kernel
theorem u129_838 {d : Nat} {ls : Lo} {st : List Va} {σ : Sg} {Q : Rs → Sg → Prop} : Wx d 129 838 ls st σ Q ↔ Wx d 129 839 ls (vi 0 :: st) σ Q := u_iconst d129_838
theorem d129_839 : decode (mB 129) 839 = .ok (.laload, 1) := by decide +kernel
theorem u129_839 {d : Nat} {ls : Lo} {st : List Va} {σ : Sg} {Q : Rs → Sg → Prop} {z : Int} {g j : Nat} : Wx d 129 839 ls (vi z :: vr g j :: st) σ Q ↔ isA g j 4 z ∧ Wx d 129 840 ls (vl (σ g j z.toNat) :: st) σ Q := u_lald d129_839
theorem d129_840 : decode (mB 129) 840 = .ok (.iload 6, 2) := by decide +kernel
theorem u129_840 {d : Nat} {ls : Lo} {st : List Va} {σ : Sg} {Q : Rs → Sg → Prop} : Wx d 129 840 ls st σ Q ↔ Li (lget ls 6) (fun z => Wx d 129 842 ls (vi z :: st) σ Q) := u_iload d129_840
theorem d129_842 : decode (mB 129) 842 = .ok (.i2l, 1) := by decide +kernel
theorem u129_842 {d : Nat} {ls : Lo} {st : List Va} {σ : Sg} {Q : Rs → Sg → Prop} {a : Int} (h : -2147483648 ≤ a ∧ a ≤ 2147483647) : Wx d 129 842 ls (vi a :: st) σ Q ↔ Wx d 129 843 ls (vl a :: st) σ Q := u_i2l d129_842 h
theorem d129_843 : decode (mB 129) 843 = .ok (.lcmp, 1) := by decide +kernel
theorem u129_843 {d : Nat} {ls : Lo} {st : List Va} {σ : Sg} {Q : Rs → Sg → Prop} {a b : Int} : Wx d 129 843 ls (vl b :: vl a :: st) σ Q ↔ Wx d 129 844 ls (vi (lg_cmp (i6 a) (i6 b)).toInt :: st) σ Q := u_lcmp d129_843
theorem d129_844 : decode (mB 129) 844 = .ok (.ifCond .eq 5, 3) := by decide +kernel
theorem u129_844 {d : Nat} {ls : Lo} {st : List Va} {σ : Sg} {Q : Rs → Sg → Prop} {a : Int} (h : -2147483648 ≤ a ∧ a ≤ 2147483647) : Wx d 129 844 ls (vi a :: st) σ Q ↔ if a = 0 then Wx d 129 849 ls st σ Q else Wx d 129 847 ls st σ Q := u_ifeq d129_844 (by decide) h
theorem d129_847 : decode (mB 129) 847 = .ok (.iconst 0, 1) := by decide +kernel
theorem u129_847 {d : Nat} {ls : Lo} {st : List Va} {σ : Sg} {Q : Rs → Sg → Prop} : Wx d 129 847 ls st σ Q ↔ Wx d 129 848 ls (vi 0 :: st) σ Q := u_iconst d129_847
theorem d129_848 : decode (mB 129) 848 = .ok (.ireturn, 1) := by decide +kernel
theorem u129_848 {d : Nat} {ls : Lo} {σ : Sg} {Q : Rs → Sg → Prop} {z : Int} (h : z = 0 ∨ z = 1) : Wx d 129 848 ls [vi z] σ Q ↔ Q (.inl (some (vi z))) σ := u_zret d129_848 rfl h
theorem d129_849 : decode (mB 129) 849 = .ok (.goto 71, 3) := by decide +kernel
theorem u129_849 {d : Nat} {ls : Lo} {st : List Va} {σ : Sg} {Q : Rs → Sg → Prop} : Wx d 129 849 ls st σ Q ↔ Wx d 129 920 ls st σ Q := u_goto d129_849 (by decide)
theorem d129_852 : decode (mB 129) 852 = .ok (.aload_n 1, 1) := by decide +kernel
theorem u129_852 {d : Nat} {ls : Lo} {st : List Va} {σ : Sg} {Q : Rs → Sg → Prop} : Wx d 129 852 ls st σ Q ↔ Lr (lget ls 1) (fun z => Wx d 129 853 ls (.inr (.inl z) :: st) σ Q) := u_aload_n d129_852
theorem d129_853 : decode (mB 129) 853 = .ok (.aload_n 0, 1) := by decide +kernel
theorem u129_853 {d : Nat} {ls : Lo} {st : List Va} {σ : Sg} {Q : Rs → Sg → Prop} : Wx d 129 853 ls st σ Q ↔ Lr (lget ls 0) (fun z => Wx d 129 854 ls (.inr (.inl z) :: st) σ Q) := u_aload_n d129_853
theorem d129_854 : decode (mB 129) 854 = .ok (.iload 4, 2) := by decide +kernel
theorem u129_854 {d : Nat} {ls : Lo} {st : List Va} {σ : Sg} {Q : Rs → Sg → Prop} : Wx d 129 854 ls st σ Q ↔ Li (lget ls 4) (fun z => Wx d 129 856 ls (vi z :: st) σ Q) := u_iload d129_854
theorem d129_856 : decode (mB 129) 856 = .ok (.iconst 1, 1) := by decide +kernel
theorem u129_856 {d : Nat} {ls : Lo} {st : List Va} {σ : Sg} {Q : Rs → Sg → Prop} : Wx d 129 856 ls st σ Q ↔ Wx d 129 857 ls (vi 1 :: st) σ Q := u_iconst d129_856
theorem d129_857 : decode (mB 129) 857 = .ok (.iadd, 1) := by decide +kernel
theorem u129_857 {d : Nat} {ls : Lo} {st : List Va} {σ : Sg} {Q : Rs → Sg → Prop} {a b : Int} : Wx d 129 857 ls (vi b :: vi a :: st) σ Q ↔ Wx d 129 858 ls (vi (a + b) :: st) σ Q := u_iadd d129_857
theorem d129_858 : decode (mB 129) 858 = .ok (.iaload, 1) := by decide +kernel
theorem u129_858 {d : Nat} {ls : Lo} {st : List Va} {σ : Sg} {Q : Rs → Sg → Prop} {z : Int} {g j : Nat} : Wx d 129 858 ls (vi z :: vr g j :: st) σ Q ↔ On (ial σ g j z) (fun x => Wx d 129 859 ls (vi x :: st) σ Q) := u_iald d129_858
theorem d129_859 : decode (mB 129) 859 = .ok (.aload_n 0, 1) := by decide +kernel
theorem u129_859 {d : Nat} {ls : Lo} {st : List Va} {σ : Sg} {Q : Rs → Sg → Prop} : Wx d 129 859 ls st σ Q ↔ Lr (lget ls 0) (fun z => Wx d 129 860 ls (.inr (.inl z) :: st) σ Q) := u_aload_n d129_859
theorem d129_860 : decode (mB 129) 860 = .ok (.iload 4, 2) := by decide +kernel
theorem u129_860 {d : Nat} {ls : Lo} {st : List Va} {σ : Sg} {Q : Rs → Sg → Prop} : Wx d 129 860 ls st σ Q ↔ Li (lget ls 4) (fun z => Wx d 129 862 ls (vi z :: st) σ Q) := u_iload d129_860
theorem d129_862 : decode (mB 129) 862 = .ok (.iconst 2, 1) := by decide +kernel
theorem u129_862 {d : Nat} {ls : Lo} {st : List Va} {σ : Sg} {Q : Rs → Sg → Prop} : Wx d 129 862 ls st σ Q ↔ Wx d 129 863 ls (vi 2 :: st) σ Q := u_iconst d129_862
theorem d129_863 : decode (mB 129) 863 = .ok (.iadd, 1) := by decide +kernel
theorem u129_863 {d : Nat} {ls : Lo} {st : List Va} {σ : Sg} {Q : Rs → Sg → Prop} {a b : Int} : Wx d 129 863 ls (vi b :: vi a :: st) σ Q ↔ Wx d 129 864 ls (vi (a + b) :: st) σ Q := u_iadd d129_863
theorem d129_864 : decode (mB 129) 864 = .ok (.iaload, 1) := by decide +kernel
theorem u129_864 {d : Nat} {ls : Lo} {st : List Va} {σ : Sg} {Q : Rs → Sg → Prop} {z : Int} {g j : Nat} : Wx d 129 864 ls (vi z :: vr g j :: st) σ Q ↔ On (ial σ g j z) (fun x => Wx d 129 865 ls (vi x :: st) σ Q) := u_iald d129_864
theorem d129_865 : decode (mB 129) 865 = .ok (.aload_n 3, 1) := by decide +kernel
theorem u129_865 {d : Nat} {ls : Lo} {st : List Va} {σ : Sg} {Q : Rs → Sg → Prop} : Wx d 129 865 ls st σ Q ↔ Lr (lget ls 3) (fun z => Wx d 129 866 ls (.inr (.inl z) :: st) σ Q) := u_aload_n d129_865
theorem d129_866 : decode (mB 129) 866 = .ok (.invokestatic 115, 3) := by decide +kernel
theorem u129_866 {d : Nat} {ls : Lo} {st : List Va} {σ : Sg} {Q : Rs → Sg → Prop} {a1 a2 a3 a4 : Va} : Wx (d + 1) 129 866 ls (a4 :: a3 :: a2 :: a1 :: st) σ Q ↔ (st.length ≤ 4 ∧ nlg [a4, a3, a2, a1] = true) ∧ Wm d 142 [a1, a2, a3, a4] σ (Kc (d + 1) 129 869 ls st Q) := u_hlp4 d129_866 rfl rfl rfl rfl
theorem d129_869 : decode (mB 129) 869 = .ok (.istore 5, 2) := by decide +kernel
theorem u129_869 {d : Nat} {ls : Lo} {st : List Va} {σ : Sg} {Q : Rs → Sg → Prop} {z : Int} : Wx d 129 869 ls (vi z :: st) σ Q ↔ Wx d 129 871 (lset ls 5 (vi z)) st σ Q := u_istore d129_869 (by decide)
theorem d129_871 : decode (mB 129) 871 = .ok (.aload_n 2, 1) := by decide +kernel
theorem u129_871 {d : Nat} {ls : Lo} {st : List Va} {σ : Sg} {Q : Rs → Sg → Prop} : Wx d 129 871 ls st σ Q ↔ Lr (lget ls 2) (fun z => Wx d 129 872 ls (.inr (.inl z) :: st) σ Q) := u_aload_n d129_871
theorem d129_872 : decode (mB 129) 872 = .ok (.aload_n 0, 1) := by decide +kernel
theorem u129_872 {d : Nat} {ls : Lo} {st : List Va} {σ : Sg} {Q : Rs → Sg → Prop} : Wx d 129 872 ls st σ Q ↔ Lr (lget ls 0) (fun z => Wx d 129 873 ls (.inr (.inl z) :: st) σ Q) := u_aload_n d129_872
theorem d129_873 : decode (mB 129) 873 = .ok (.iload 4, 2) := by decide +kernel
theorem u129_873 {d : Nat} {ls : Lo} {st : List Va} {σ : Sg} {Q : Rs → Sg → Prop} : Wx d 129 873 ls st σ Q ↔ Li (lget ls 4) (fun z => Wx d 129 875 ls (vi z :: st) σ Q) := u_iload d129_873
theorem d129_875 : decode (mB 129) 875 = .ok (.iconst 1, 1) := by decide +kernel
theorem u129_875 {d : Nat} {ls : Lo} {st : List Va} {σ : Sg} {Q : Rs → Sg → Prop} : Wx d 129 875 ls st σ Q ↔ Wx d 129 876 ls (vi 1 :: st) σ Q := u_iconst d129_875
theorem d129_876 : decode (mB 129) 876 = .ok (.iadd, 1) := by decide +kernel
theorem u129_876 {d : Nat} {ls : Lo} {st : List Va} {σ : Sg} {Q : Rs → Sg → Prop} {a b : Int} : Wx d 129 876 ls (vi b :: vi a :: st) σ Q ↔ Wx d 129 877 ls (vi (a + b) :: st) σ Q := u_iadd d129_876
theorem d129_877 : decode (mB 129) 877 = .ok (.iaload, 1) := by decide +kernel
theorem u129_877 {d : Nat} {ls : Lo} {st : List Va} {σ : Sg} {Q : Rs → Sg → Prop} {z : Int} {g j : Nat} : Wx d 129 877 ls (vi z :: vr g j :: st) σ Q ↔ On (ial σ g j z) (fun x => Wx d 129 878 ls (vi x :: st) σ Q) := u_iald d129_877
theorem d129_878 : decode (mB 129) 878 = .ok (.aload_n 0, 1) := by decide +kernel
theorem u129_878 {d : Nat} {ls : Lo} {st : List Va} {σ : Sg} {Q : Rs → Sg → Prop} : Wx d 129 878 ls st σ Q ↔ Lr (lget ls 0) (fun z => Wx d 129 879 ls (.inr (.inl z) :: st) σ Q) := u_aload_n d129_878
theorem d129_879 : decode (mB 129) 879 = .ok (.iload 4, 2) := by decide +kernel
theorem u129_879 {d : Nat} {ls : Lo} {st : List Va} {σ : Sg} {Q : Rs → Sg → Prop} : Wx d 129 879 ls st σ Q ↔ Li (lget ls 4) (fun z => Wx d 129 881 ls (vi z :: st) σ Q) := u_iload d129_879
theorem d129_881 : decode (mB 129) 881 = .ok (.iconst 2, 1) := by decide +kernel
theorem u129_881 {d : Nat} {ls : Lo} {st : List Va} {σ : Sg} {Q : Rs → Sg → Prop} : Wx d 129 881 ls st σ Q ↔ Wx d 129 882 ls (vi 2 :: st) σ Q := u_iconst d129_881
theorem d129_882 : decode (mB 129) 882 = .ok (.iadd, 1) := by decide +kernel
theorem u129_882 {d : Nat} {ls : Lo} {st : List Va} {σ : Sg} {Q : Rs → Sg → Prop} {a b : Int} : Wx d 129 882 ls (vi b :: vi a :: st) σ Q ↔ Wx d 129 883 ls (vi (a + b) :: st) σ Q := u_iadd d129_882
theorem d129_883 : decode (mB 129) 883 = .ok (.iaload, 1) := by decide +kernel
theorem u129_883 {d : Nat} {ls : Lo} {st : List Va} {σ : Sg} {Q : Rs → Sg → Prop} {z : Int} {g j : Nat} : Wx d 129 883 ls (vi z :: vr g j :: st) σ Q ↔ On (ial σ g j z) (fun x => Wx d 129 884 ls (vi x :: st) σ Q) := u_iald d129_883
theorem d129_884 : decode (mB 129) 884 = .ok (.invokevirtual 117, 3) := by decide +kernel
theorem u129_884 {d : Nat} {ls : Lo} {st : List Va} {σ : Sg} {Q : Rs → Sg → Prop} {g j : Nat} {a1 a2 : Va} : Wx (d + 1) 129 884 ls (a2 :: a1 :: vr g j :: st) σ Q ↔ (isO g j 7 ∧ st.length ≤ 4 ∧ nlg [a2, a1] = true) ∧ Wm d 127 [vr g j, a1, a2] σ (Kc (d + 1) 129 887 ls st Q) := u_inv2 d129_884 rfl rfl rfl
theorem d129_887 : decode (mB 129) 887 = .ok (.istore 6, 2) := by decide +kernel
theorem u129_887 {d : Nat} {ls : Lo} {st : List Va} {σ : Sg} {Q : Rs → Sg → Prop} {z : Int} : Wx d 129 887 ls (vi z :: st) σ Q ↔ Wx d 129 889 (lset ls 6 (vi z)) st σ Q := u_istore d129_887 (by decide)
theorem d129_889 : decode (mB 129) 889 = .ok (.aload_n 2, 1) := by decide +kernel
theorem u129_889 {d : Nat} {ls : Lo} {st : List Va} {σ : Sg} {Q : Rs → Sg → Prop} : Wx d 129 889 ls st σ Q ↔ Lr (lget ls 2) (fun z => Wx d 129 890 ls (.inr (.inl z) :: st) σ Q) := u_aload_n d129_889
theorem d129_890 : decode (mB 129) 890 = .ok (.invokevirtual 72, 3) := by decide +kernel
theorem u129_890 {d : Nat} {ls : Lo} {st : List Va} {σ : Sg} {Q : Rs → Sg → Prop} {g j : Nat} : Wx (d + 1) 129 890 ls (vr g j :: st) σ Q ↔ (isO g j 7 ∧ st.length ≤ 4 ∧ nlg [] = true) ∧ Wm d 74 [vr g j] σ (Kc (d + 1) 129 893 ls st Q) := u_inv0 d129_890 rfl rfl rfl
theorem d129_893 : decode (mB 129) 893 = .ok (.iload 5, 2) := by decide +kernel
theorem u129_893 {d : Nat} {ls : Lo} {st : List Va} {σ : Sg} {Q : Rs → Sg → Prop} : Wx d 129 893 ls st σ Q ↔ Li (lget ls 5) (fun z => Wx d 129 895 ls (vi z :: st) σ Q) := u_iload d129_893
theorem d129_895 : decode (mB 129) 895 = .ok (.if_icmp .eq 5, 3) := by decide +kernel
theorem u129_895 {d : Nat} {ls : Lo} {st : List Va} {σ : Sg} {Q : Rs → Sg → Prop} {a b : Int} (h : -2147483648 ≤ a ∧ a ≤ 2147483647) (h2 : -2147483648 ≤ b ∧ b ≤ 2147483647) : Wx d 129 895 ls (vi b :: vi a :: st) σ Q ↔ if a = b then Wx d 129 900 ls st σ Q else Wx d 129 898 ls st σ Q := u_iceq d129_895 (by decide) h h2
theorem d129_898 : decode (mB 129) 898 = .ok (.iconst 0, 1) := by decide +kernel
theorem u129_898 {d : Nat} {ls : Lo} {st : List Va} {σ : Sg} {Q : Rs → Sg → Prop} : Wx d 129 898 ls st σ Q ↔ Wx d 129 899 ls (vi 0 :: st) σ Q := u_iconst d129_898
theorem d129_899 : decode (mB 129) 899 = .ok (.ireturn, 1) := by decide +kernel
theorem u129_899 {d : Nat} {ls : Lo} {σ : Sg} {Q : Rs → Sg → Prop} {z : Int} (h : z = 0 ∨ z = 1) : Wx d 129 899 ls [vi z] σ Q ↔ Q (.inl (some (vi z))) σ := u_zret d129_899 rfl h
theorem d129_900 : decode (mB 129) 900 = .ok (.iload 5, 2) := by decide +kernel
theorem u129_900 {d : Nat} {ls : Lo} {st : List Va} {σ : Sg} {Q : Rs → Sg → Prop} : Wx d 129 900 ls st σ Q ↔ Li (lget ls 5) (fun z => Wx d 129 902 ls (vi z :: st) σ Q) := u_iload d129_900
theorem d129_902 : decode (mB 129) 902 = .ok (.ifCond .ne 15, 3) := by decide +kernel
theorem u129_902 {d : Nat} {ls : Lo} {st : List Va} {σ : Sg} {Q : Rs → Sg → Prop} {a : Int} (h : -2147483648 ≤ a ∧ a ≤ 2147483647) : Wx d 129 902 ls (vi a :: st) σ Q ↔ if ¬ a = 0 then Wx d 129 917 ls st σ Q else Wx d 129 905 ls st σ Q := u_ifne d129_902 (by decide) h
theorem d129_905 : decode (mB 129) 905 = .ok (.aload_n 3, 1) := by decide +kernel
theorem u129_905 {d : Nat} {ls : Lo} {st : List Va} {σ : Sg} {Q : Rs → Sg → Prop} : Wx d 129 905 ls st σ Q ↔ Lr (lget ls 3) (fun z => Wx d 129 906 ls (.inr (.inl z) :: st) σ Q) := u_aload_n d129_905
theorem d129_906 : decode (mB 129) 906 = .ok (.iconst 0, 1) := by decide +kernel
theorem u129_906 {d : Nat} {ls : Lo} {st : List Va} {σ : Sg} {Q : Rs → Sg → Prop} : Wx d 129 906 ls st σ Q ↔ Wx d 129 907 ls (vi 0 :: st) σ Q := u_iconst d129_906
theorem d129_907 : decode (mB 129) 907 = .ok (.laload, 1) := by decide +kernel
theorem u129_907 {d : Nat} {ls : Lo} {st : List Va} {σ : Sg} {Q : Rs → Sg → Prop} {z : Int} {g j : Nat} : Wx d 129 907 ls (vi z :: vr g j :: st) σ Q ↔ isA g j 4 z ∧ Wx d 129 908 ls (vl (σ g j z.toNat) :: st) σ Q := u_lald d129_907
theorem d129_908 : decode (mB 129) 908 = .ok (.iload 6, 2) := by decide +kernel
theorem u129_908 {d : Nat} {ls : Lo} {st : List Va} {σ : Sg} {Q : Rs → Sg → Prop} : Wx d 129 908 ls st σ Q ↔ Li (lget ls 6) (fun z => Wx d 129 910 ls (vi z :: st) σ Q) := u_iload d129_908
theorem d129_910 : decode (mB 129) 910 = .ok (.i2l, 1) := by decide +kernel
theorem u129_910 {d : Nat} {ls : Lo} {st : List Va} {σ : Sg} {Q : Rs → Sg → Prop} {a : Int} (h : -2147483648 ≤ a ∧ a ≤ 2147483647) : Wx d 129 910 ls (vi a :: st) σ Q ↔ Wx d 129 911 ls (vl a :: st) σ Q := u_i2l d129_910 h
theorem d129_911 : decode (mB 129) 911 = .ok (.lcmp, 1) := by decide +kernel
theorem u129_911 {d : Nat} {ls : Lo} {st : List Va} {σ : Sg} {Q : Rs → Sg → Prop} {a b : Int} : Wx d 129 911 ls (vl b :: vl a :: st) σ Q ↔ Wx d 129 912 ls (vi (lg_cmp (i6 a) (i6 b)).toInt :: st) σ Q := u_lcmp d129_911
theorem d129_912 : decode (mB 129) 912 = .ok (.ifCond .eq 5, 3) := by decide +kernel
theorem u129_912 {d : Nat} {ls : Lo} {st : List Va} {σ : Sg} {Q : Rs → Sg → Prop} {a : Int} (h : -2147483648 ≤ a ∧ a ≤ 2147483647) : Wx d 129 912 ls (vi a :: st) σ Q ↔ if a = 0 then Wx d 129 917 ls st σ Q else Wx d 129 915 ls st σ Q := u_ifeq d129_912 (by decide) h
theorem d129_915 : decode (mB 129) 915 = .ok (.iconst 0, 1) := by decide +kernel
theorem u129_915 {d : Nat} {ls : Lo} {st : List Va} {σ : Sg} {Q : Rs → Sg → Prop} : Wx d 129 915 ls st σ Q ↔ Wx d 129 916 ls (vi 0 :: st) σ Q := u_iconst d129_915
theorem d129_916 : decode (mB 129) 916 = .ok (.ireturn, 1) := by decide +kernel
theorem u129_916 {d : Nat} {ls : Lo} {σ : Sg} {Q : Rs → Sg → Prop} {z : Int} (h : z = 0 ∨ z = 1) : Wx d 129 916 ls [vi z] σ Q ↔ Q (.inl (some (vi z))) σ := u_zret d129_916 rfl h
theorem d129_917 : decode (mB 129) 917 = .ok (.goto 3, 3) := by decide +kernel
theorem u129_917 {d : Nat} {ls : Lo} {st : List Va} {σ : Sg} {Q : Rs → Sg → Prop} : Wx d 129 917 ls st σ Q ↔ Wx d 129 920 ls st σ Q := u_goto d129_917 (by decide)
theorem d129_920 : decode (mB 129) 920 = .ok (.iinc 4 5, 3) := by decide +kernel
theorem u129_920 {d : Nat} {ls : Lo} {st : List Va} {σ : Sg} {Q : Rs → Sg → Prop} : Wx d 129 920 ls st σ Q ↔ Li (lget ls 4) (fun z => Wx d 129 923 (lset ls 4 (vi (z + 5))) st σ Q) := u_iinc d129_920 (by decide)
theorem d129_923 : decode (mB 129) 923 = .ok (.goto (-900), 3) := by decide +kernel
theorem u129_923 {d : Nat} {ls : Lo} {st : List Va} {σ : Sg} {Q : Rs → Sg → Prop} : Wx d 129 923 ls st σ Q ↔ Wx d 129 23 ls st σ Q := u_goto d129_923 (by decide)
theorem d129_926 : decode (mB 129) 926 = .ok (.iconst 1, 1) := by decide +kernel
theorem u129_926 {d : Nat} {ls : Lo} {st : List Va} {σ : Sg} {Q : Rs → Sg → Prop} : Wx d 129 926 ls st σ Q ↔ Wx d 129 927 ls (vi 1 :: st) σ Q := u_iconst d129_926
theorem d129_927 : decode (mB 129) 927 = .ok (.ireturn, 1) := by decide +kernel
theorem u129_927 {d : Nat} {ls : Lo} {σ : Sg} {Q : Rs → Sg → Prop} {z : Int} (h : z = 0 ∨ z = 1) : Wx d 129 927 ls [vi z] σ Q ↔ Q (.inl (some (vi z))) σ := u_zret d129_927 rfl h
/-! 130: FiguredBassLaw.key(LFiguredBass;IZ)I -/
theorem d130_0 : decode (mB 130) 0 = .ok (.aload_n 0, 1) := by decide +kernel
theorem u130_0 {d : Nat} {ls : Lo} {st : List Va} {σ : Sg} {Q : Rs → Sg → Prop} : Wx d 130 0 ls st σ Q ↔ Lr (lget ls 0) (fun z => Wx d 130 1 ls (.inr (.inl z) :: st) σ Q) := u_aload_n d130_0
theorem d130_1 : decode (mB 130) 1 = .ok (.iload_n 1, 1) := by decide +kernel
theorem u130_1 {d : Nat} {ls : Lo} {st : List Va} {σ : Sg} {Q : Rs → Sg → Prop} : Wx d 130 1 ls st σ Q ↔ Li (lget ls 1) (fun z => Wx d 130 2 ls (vi z :: st) σ Q) := u_iload_n d130_1
theorem d130_2 : decode (mB 130) 2 = .ok (.iload_n 2, 1) := by decide +kernel
theorem u130_2 {d : Nat} {ls : Lo} {st : List Va} {σ : Sg} {Q : Rs → Sg → Prop} : Wx d 130 2 ls st σ Q ↔ Li (lget ls 2) (fun z => Wx d 130 3 ls (vi z :: st) σ Q) := u_iload_n d130_2
theorem d130_3 : decode (mB 130) 3 = .ok (.invokevirtual 7, 3) := by decide +kernel
theorem u130_3 {d : Nat} {ls : Lo} {st : List Va} {σ : Sg} {Q : Rs → Sg → Prop} {g j : Nat} {a1 a2 : Va} : Wx (d + 1) 130 3 ls (a2 :: a1 :: vr g j :: st) σ Q ↔ (isO g j 0 ∧ st.length ≤ 4 ∧ nlg [a2, a1] = true) ∧ Wm d 0 [vr g j, a1, a2] σ (Kc (d + 1) 130 6 ls st Q) := u_inv2 d130_3 rfl rfl rfl
theorem d130_6 : decode (mB 130) 6 = .ok (.goto 6, 3) := by decide +kernel
theorem u130_6 {d : Nat} {ls : Lo} {st : List Va} {σ : Sg} {Q : Rs → Sg → Prop} : Wx d 130 6 ls st σ Q ↔ Wx d 130 12 ls st σ Q := u_goto d130_6 (by decide)
theorem d130_9 : decode (mB 130) 9 = .ok (.astore_n 3, 1) := by decide +kernel
theorem u130_9 {d : Nat} {ls : Lo} {st : List Va} {σ : Sg} {Q : Rs → Sg → Prop} {g j : Nat} : Wx d 130 9 ls (vr g j :: st) σ Q ↔ Wx d 130 10 (lset ls 3 (vr g j)) st σ Q := u_astore_n d130_9 (by decide)
theorem d130_10 : decode (mB 130) 10 = .ok (.iconst 1, 1) := by decide +kernel
theorem u130_10 {d : Nat} {ls : Lo} {st : List Va} {σ : Sg} {Q : Rs → Sg → Prop} : Wx d 130 10 ls st σ Q ↔ Wx d 130 11 ls (vi 1 :: st) σ Q := u_iconst d130_10
theorem d130_11 : decode (mB 130) 11 = .ok (.ireturn, 1) := by decide +kernel
theorem u130_11 {d : Nat} {ls : Lo} {σ : Sg} {Q : Rs → Sg → Prop} {z : Int} : Wx d 130 11 ls [vi z] σ Q ↔ Q (.inl (some (vi z))) σ := u_iret d130_11 rfl
theorem d130_12 : decode (mB 130) 12 = .ok (.iconst 0, 1) := by decide +kernel
theorem u130_12 {d : Nat} {ls : Lo} {st : List Va} {σ : Sg} {Q : Rs → Sg → Prop} : Wx d 130 12 ls st σ Q ↔ Wx d 130 13 ls (vi 0 :: st) σ Q := u_iconst d130_12
theorem d130_13 : decode (mB 130) 13 = .ok (.ireturn, 1) := by decide +kernel
theorem u130_13 {d : Nat} {ls : Lo} {σ : Sg} {Q : Rs → Sg → Prop} {z : Int} : Wx d 130 13 ls [vi z] σ Q ↔ Q (.inl (some (vi z))) σ := u_iret d130_13 rfl
/-! 131: FiguredBassLaw.length(LFiguredBass;I)I -/
theorem d131_0 : decode (mB 131) 0 = .ok (.aload_n 0, 1) := by decide +kernel
theorem u131_0 {d : Nat} {ls : Lo} {st : List Va} {σ : Sg} {Q : Rs → Sg → Prop} : Wx d 131 0 ls st σ Q ↔ Lr (lget ls 0) (fun z => Wx d 131 1 ls (.inr (.inl z) :: st) σ Q) := u_aload_n d131_0
theorem d131_1 : decode (mB 131) 1 = .ok (.iload_n 1, 1) := by decide +kernel
theorem u131_1 {d : Nat} {ls : Lo} {st : List Va} {σ : Sg} {Q : Rs → Sg → Prop} : Wx d 131 1 ls st σ Q ↔ Li (lget ls 1) (fun z => Wx d 131 2 ls (vi z :: st) σ Q) := u_iload_n d131_1
theorem d131_2 : decode (mB 131) 2 = .ok (.invokevirtual 15, 3) := by decide +kernel
theorem u131_2 {d : Nat} {ls : Lo} {st : List Va} {σ : Sg} {Q : Rs → Sg → Prop} {g j : Nat} {a1 : Va} : Wx (d + 1) 131 2 ls (a1 :: vr g j :: st) σ Q ↔ (isO g j 0 ∧ st.length ≤ 4 ∧ nlg [a1] = true) ∧ Wm d 1 [vr g j, a1] σ (Kc (d + 1) 131 5 ls st Q) := u_inv1 d131_2 rfl rfl rfl
theorem d131_5 : decode (mB 131) 5 = .ok (.goto 6, 3) := by decide +kernel
theorem u131_5 {d : Nat} {ls : Lo} {st : List Va} {σ : Sg} {Q : Rs → Sg → Prop} : Wx d 131 5 ls st σ Q ↔ Wx d 131 11 ls st σ Q := u_goto d131_5 (by decide)
theorem d131_8 : decode (mB 131) 8 = .ok (.astore_n 2, 1) := by decide +kernel
theorem u131_8 {d : Nat} {ls : Lo} {st : List Va} {σ : Sg} {Q : Rs → Sg → Prop} {g j : Nat} : Wx d 131 8 ls (vr g j :: st) σ Q ↔ Wx d 131 9 (lset ls 2 (vr g j)) st σ Q := u_astore_n d131_8 (by decide)
theorem d131_9 : decode (mB 131) 9 = .ok (.iconst 1, 1) := by decide +kernel
theorem u131_9 {d : Nat} {ls : Lo} {st : List Va} {σ : Sg} {Q : Rs → Sg → Prop} : Wx d 131 9 ls st σ Q ↔ Wx d 131 10 ls (vi 1 :: st) σ Q := u_iconst d131_9
theorem d131_10 : decode (mB 131) 10 = .ok (.ireturn, 1) := by decide +kernel
theorem u131_10 {d : Nat} {ls : Lo} {σ : Sg} {Q : Rs → Sg → Prop} {z : Int} : Wx d 131 10 ls [vi z] σ Q ↔ Q (.inl (some (vi z))) σ := u_iret d131_10 rfl
theorem d131_11 : decode (mB 131) 11 = .ok (.iconst 0, 1) := by decide +kernel
theorem u131_11 {d : Nat} {ls : Lo} {st : List Va} {σ : Sg} {Q : Rs → Sg → Prop} : Wx d 131 11 ls st σ Q ↔ Wx d 131 12 ls (vi 0 :: st) σ Q := u_iconst d131_11
theorem d131_12 : decode (mB 131) 12 = .ok (.ireturn, 1) := by decide +kernel
theorem u131_12 {d : Nat} {ls : Lo} {σ : Sg} {Q : Rs → Sg → Prop} {z : Int} : Wx d 131 12 ls [vi z] σ Q ↔ Q (.inl (some (vi z))) σ := u_iret d131_12 rfl
/-! 132: FiguredBassLaw.bass(LFiguredBass;IIII[J)I -/
theorem d132_0 : decode (mB 132) 0 = .ok (.aload 5, 2) := by decide +kernel
theorem u132_0 {d : Nat} {ls : Lo} {st : List Va} {σ : Sg} {Q : Rs → Sg → Prop} : Wx d 132 0 ls st σ Q ↔ Lr (lget ls 5) (fun z => Wx d 132 2 ls (.inr (.inl z) :: st) σ Q) := u_aload d132_0
theorem d132_2 : decode (mB 132) 2 = .ok (.iconst 0, 1) := by decide +kernel
theorem u132_2 {d : Nat} {ls : Lo} {st : List Va} {σ : Sg} {Q : Rs → Sg → Prop} : Wx d 132 2 ls st σ Q ↔ Wx d 132 3 ls (vi 0 :: st) σ Q := u_iconst d132_2
theorem d132_3 : decode (mB 132) 3 = .ok (.aload_n 0, 1) := by decide +kernel
theorem u132_3 {d : Nat} {ls : Lo} {st : List Va} {σ : Sg} {Q : Rs → Sg → Prop} : Wx d 132 3 ls st σ Q ↔ Lr (lget ls 0) (fun z => Wx d 132 4 ls (.inr (.inl z) :: st) σ Q) := u_aload_n d132_3
theorem d132_4 : decode (mB 132) 4 = .ok (.iload_n 1, 1) := by decide +kernel
theorem u132_4 {d : Nat} {ls : Lo} {st : List Va} {σ : Sg} {Q : Rs → Sg → Prop} : Wx d 132 4 ls st σ Q ↔ Li (lget ls 1) (fun z => Wx d 132 5 ls (vi z :: st) σ Q) := u_iload_n d132_4
theorem d132_5 : decode (mB 132) 5 = .ok (.iload_n 2, 1) := by decide +kernel
theorem u132_5 {d : Nat} {ls : Lo} {st : List Va} {σ : Sg} {Q : Rs → Sg → Prop} : Wx d 132 5 ls st σ Q ↔ Li (lget ls 2) (fun z => Wx d 132 6 ls (vi z :: st) σ Q) := u_iload_n d132_5
theorem d132_6 : decode (mB 132) 6 = .ok (.iload_n 3, 1) := by decide +kernel
theorem u132_6 {d : Nat} {ls : Lo} {st : List Va} {σ : Sg} {Q : Rs → Sg → Prop} : Wx d 132 6 ls st σ Q ↔ Li (lget ls 3) (fun z => Wx d 132 7 ls (vi z :: st) σ Q) := u_iload_n d132_6
theorem d132_7 : decode (mB 132) 7 = .ok (.iload 4, 2) := by decide +kernel
theorem u132_7 {d : Nat} {ls : Lo} {st : List Va} {σ : Sg} {Q : Rs → Sg → Prop} : Wx d 132 7 ls st σ Q ↔ Li (lget ls 4) (fun z => Wx d 132 9 ls (vi z :: st) σ Q) := u_iload d132_7
theorem d132_9 : decode (mB 132) 9 = .ok (.invokevirtual 19, 3) := by decide +kernel
theorem u132_9 {d : Nat} {ls : Lo} {st : List Va} {σ : Sg} {Q : Rs → Sg → Prop} {g j : Nat} {a1 a2 a3 a4 : Va} : Wx (d + 1) 132 9 ls (a4 :: a3 :: a2 :: a1 :: vr g j :: st) σ Q ↔ (isO g j 0 ∧ st.length ≤ 4 ∧ nlg [a4, a3, a2, a1] = true) ∧ Wm d 2 [vr g j, a1, a2, a3, a4] σ (Kc (d + 1) 132 12 ls st Q) := u_inv4 d132_9 rfl rfl rfl
theorem d132_12 : decode (mB 132) 12 = .ok (.i2l, 1) := by decide +kernel
theorem u132_12 {d : Nat} {ls : Lo} {st : List Va} {σ : Sg} {Q : Rs → Sg → Prop} {a : Int} (h : -2147483648 ≤ a ∧ a ≤ 2147483647) : Wx d 132 12 ls (vi a :: st) σ Q ↔ Wx d 132 13 ls (vl a :: st) σ Q := u_i2l d132_12 h
theorem d132_13 : decode (mB 132) 13 = .ok (.lastore, 1) := by decide +kernel
theorem u132_13 {d : Nat} {ls : Lo} {st : List Va} {σ : Sg} {Q : Rs → Sg → Prop} {x z : Int} {g j : Nat} : Wx d 132 13 ls (vl x :: vi z :: vr g j :: st) σ Q ↔ isA g j 4 z ∧ Wx d 132 14 ls st (up σ g j z.toNat x) Q := u_last d132_13
theorem d132_14 : decode (mB 132) 14 = .ok (.goto 7, 3) := by decide +kernel
theorem u132_14 {d : Nat} {ls : Lo} {st : List Va} {σ : Sg} {Q : Rs → Sg → Prop} : Wx d 132 14 ls st σ Q ↔ Wx d 132 21 ls st σ Q := u_goto d132_14 (by decide)
theorem d132_17 : decode (mB 132) 17 = .ok (.astore 6, 2) := by decide +kernel
theorem u132_17 {d : Nat} {ls : Lo} {st : List Va} {σ : Sg} {Q : Rs → Sg → Prop} {g j : Nat} : Wx d 132 17 ls (vr g j :: st) σ Q ↔ Wx d 132 19 (lset ls 6 (vr g j)) st σ Q := u_astore d132_17 (by decide)
theorem d132_19 : decode (mB 132) 19 = .ok (.iconst 1, 1) := by decide +kernel
theorem u132_19 {d : Nat} {ls : Lo} {st : List Va} {σ : Sg} {Q : Rs → Sg → Prop} : Wx d 132 19 ls st σ Q ↔ Wx d 132 20 ls (vi 1 :: st) σ Q := u_iconst d132_19
theorem d132_20 : decode (mB 132) 20 = .ok (.ireturn, 1) := by decide +kernel
theorem u132_20 {d : Nat} {ls : Lo} {σ : Sg} {Q : Rs → Sg → Prop} {z : Int} : Wx d 132 20 ls [vi z] σ Q ↔ Q (.inl (some (vi z))) σ := u_iret d132_20 rfl
theorem d132_21 : decode (mB 132) 21 = .ok (.iconst 0, 1) := by decide +kernel
theorem u132_21 {d : Nat} {ls : Lo} {st : List Va} {σ : Sg} {Q : Rs → Sg → Prop} : Wx d 132 21 ls st σ Q ↔ Wx d 132 22 ls (vi 0 :: st) σ Q := u_iconst d132_21
theorem d132_22 : decode (mB 132) 22 = .ok (.ireturn, 1) := by decide +kernel
theorem u132_22 {d : Nat} {ls : Lo} {σ : Sg} {Q : Rs → Sg → Prop} {z : Int} : Wx d 132 22 ls [vi z] σ Q ↔ Q (.inl (some (vi z))) σ := u_iret d132_22 rfl
/-! 133: FiguredBassLaw.figure(LFiguredBass;III[J)I -/
theorem d133_0 : decode (mB 133) 0 = .ok (.aload 4, 2) := by decide +kernel
theorem u133_0 {d : Nat} {ls : Lo} {st : List Va} {σ : Sg} {Q : Rs → Sg → Prop} : Wx d 133 0 ls st σ Q ↔ Lr (lget ls 4) (fun z => Wx d 133 2 ls (.inr (.inl z) :: st) σ Q) := u_aload d133_0
theorem d133_2 : decode (mB 133) 2 = .ok (.iconst 0, 1) := by decide +kernel
theorem u133_2 {d : Nat} {ls : Lo} {st : List Va} {σ : Sg} {Q : Rs → Sg → Prop} : Wx d 133 2 ls st σ Q ↔ Wx d 133 3 ls (vi 0 :: st) σ Q := u_iconst d133_2
theorem d133_3 : decode (mB 133) 3 = .ok (.aload_n 0, 1) := by decide +kernel
theorem u133_3 {d : Nat} {ls : Lo} {st : List Va} {σ : Sg} {Q : Rs → Sg → Prop} : Wx d 133 3 ls st σ Q ↔ Lr (lget ls 0) (fun z => Wx d 133 4 ls (.inr (.inl z) :: st) σ Q) := u_aload_n d133_3
theorem d133_4 : decode (mB 133) 4 = .ok (.iload_n 1, 1) := by decide +kernel
theorem u133_4 {d : Nat} {ls : Lo} {st : List Va} {σ : Sg} {Q : Rs → Sg → Prop} : Wx d 133 4 ls st σ Q ↔ Li (lget ls 1) (fun z => Wx d 133 5 ls (vi z :: st) σ Q) := u_iload_n d133_4
theorem d133_5 : decode (mB 133) 5 = .ok (.iload_n 2, 1) := by decide +kernel
theorem u133_5 {d : Nat} {ls : Lo} {st : List Va} {σ : Sg} {Q : Rs → Sg → Prop} : Wx d 133 5 ls st σ Q ↔ Li (lget ls 2) (fun z => Wx d 133 6 ls (vi z :: st) σ Q) := u_iload_n d133_5
theorem d133_6 : decode (mB 133) 6 = .ok (.iload_n 3, 1) := by decide +kernel
theorem u133_6 {d : Nat} {ls : Lo} {st : List Va} {σ : Sg} {Q : Rs → Sg → Prop} : Wx d 133 6 ls st σ Q ↔ Li (lget ls 3) (fun z => Wx d 133 7 ls (vi z :: st) σ Q) := u_iload_n d133_6
theorem d133_7 : decode (mB 133) 7 = .ok (.invokevirtual 23, 3) := by decide +kernel
theorem u133_7 {d : Nat} {ls : Lo} {st : List Va} {σ : Sg} {Q : Rs → Sg → Prop} {g j : Nat} {a1 a2 a3 : Va} : Wx (d + 1) 133 7 ls (a3 :: a2 :: a1 :: vr g j :: st) σ Q ↔ (isO g j 0 ∧ st.length ≤ 4 ∧ nlg [a3, a2, a1] = true) ∧ Wm d 3 [vr g j, a1, a2, a3] σ (Kc (d + 1) 133 10 ls st Q) := u_inv3 d133_7 rfl rfl rfl
theorem d133_10 : decode (mB 133) 10 = .ok (.i2l, 1) := by decide +kernel
theorem u133_10 {d : Nat} {ls : Lo} {st : List Va} {σ : Sg} {Q : Rs → Sg → Prop} {a : Int} (h : -2147483648 ≤ a ∧ a ≤ 2147483647) : Wx d 133 10 ls (vi a :: st) σ Q ↔ Wx d 133 11 ls (vl a :: st) σ Q := u_i2l d133_10 h
theorem d133_11 : decode (mB 133) 11 = .ok (.lastore, 1) := by decide +kernel
theorem u133_11 {d : Nat} {ls : Lo} {st : List Va} {σ : Sg} {Q : Rs → Sg → Prop} {x z : Int} {g j : Nat} : Wx d 133 11 ls (vl x :: vi z :: vr g j :: st) σ Q ↔ isA g j 4 z ∧ Wx d 133 12 ls st (up σ g j z.toNat x) Q := u_last d133_11
theorem d133_12 : decode (mB 133) 12 = .ok (.goto 11, 3) := by decide +kernel
theorem u133_12 {d : Nat} {ls : Lo} {st : List Va} {σ : Sg} {Q : Rs → Sg → Prop} : Wx d 133 12 ls st σ Q ↔ Wx d 133 23 ls st σ Q := u_goto d133_12 (by decide)
theorem d133_15 : decode (mB 133) 15 = .ok (.astore 5, 2) := by decide +kernel
theorem u133_15 {d : Nat} {ls : Lo} {st : List Va} {σ : Sg} {Q : Rs → Sg → Prop} {g j : Nat} : Wx d 133 15 ls (vr g j :: st) σ Q ↔ Wx d 133 17 (lset ls 5 (vr g j)) st σ Q := u_astore d133_15 (by decide)
theorem d133_17 : decode (mB 133) 17 = .ok (.iconst 1, 1) := by decide +kernel
theorem u133_17 {d : Nat} {ls : Lo} {st : List Va} {σ : Sg} {Q : Rs → Sg → Prop} : Wx d 133 17 ls st σ Q ↔ Wx d 133 18 ls (vi 1 :: st) σ Q := u_iconst d133_17
theorem d133_18 : decode (mB 133) 18 = .ok (.ireturn, 1) := by decide +kernel
theorem u133_18 {d : Nat} {ls : Lo} {σ : Sg} {Q : Rs → Sg → Prop} {z : Int} : Wx d 133 18 ls [vi z] σ Q ↔ Q (.inl (some (vi z))) σ := u_iret d133_18 rfl
theorem d133_19 : decode (mB 133) 19 = .ok (.astore 5, 2) := by decide +kernel
theorem u133_19 {d : Nat} {ls : Lo} {st : List Va} {σ : Sg} {Q : Rs → Sg → Prop} {g j : Nat} : Wx d 133 19 ls (vr g j :: st) σ Q ↔ Wx d 133 21 (lset ls 5 (vr g j)) st σ Q := u_astore d133_19 (by decide)
theorem d133_21 : decode (mB 133) 21 = .ok (.iconst 2, 1) := by decide +kernel
theorem u133_21 {d : Nat} {ls : Lo} {st : List Va} {σ : Sg} {Q : Rs → Sg → Prop} : Wx d 133 21 ls st σ Q ↔ Wx d 133 22 ls (vi 2 :: st) σ Q := u_iconst d133_21
theorem d133_22 : decode (mB 133) 22 = .ok (.ireturn, 1) := by decide +kernel
theorem u133_22 {d : Nat} {ls : Lo} {σ : Sg} {Q : Rs → Sg → Prop} {z : Int} : Wx d 133 22 ls [vi z] σ Q ↔ Q (.inl (some (vi z))) σ := u_iret d133_22 rfl
theorem d133_23 : decode (mB 133) 23 = .ok (.iconst 0, 1) := by decide +kernel
theorem u133_23 {d : Nat} {ls : Lo} {st : List Va} {σ : Sg} {Q : Rs → Sg → Prop} : Wx d 133 23 ls st σ Q ↔ Wx d 133 24 ls (vi 0 :: st) σ Q := u_iconst d133_23
theorem d133_24 : decode (mB 133) 24 = .ok (.ireturn, 1) := by decide +kernel
theorem u133_24 {d : Nat} {ls : Lo} {σ : Sg} {Q : Rs → Sg → Prop} {z : Int} : Wx d 133 24 ls [vi z] σ Q ↔ Q (.inl (some (vi z))) σ := u_iret d133_24 rfl
/-! 134: FiguredBassLaw.spell(LFiguredBass;II[J)I -/
theorem d134_0 : decode (mB 134) 0 = .ok (.aload_n 3, 1) := by decide +kernel
theorem u134_0 {d : Nat} {ls : Lo} {st : List Va} {σ : Sg} {Q : Rs → Sg → Prop} : Wx d 134 0 ls st σ Q ↔ Lr (lget ls 3) (fun z => Wx d 134 1 ls (.inr (.inl z) :: st) σ Q) := u_aload_n d134_0
theorem d134_1 : decode (mB 134) 1 = .ok (.iconst 0, 1) := by decide +kernel
theorem u134_1 {d : Nat} {ls : Lo} {st : List Va} {σ : Sg} {Q : Rs → Sg → Prop} : Wx d 134 1 ls st σ Q ↔ Wx d 134 2 ls (vi 0 :: st) σ Q := u_iconst d134_1
theorem d134_2 : decode (mB 134) 2 = .ok (.aload_n 0, 1) := by decide +kernel
theorem u134_2 {d : Nat} {ls : Lo} {st : List Va} {σ : Sg} {Q : Rs → Sg → Prop} : Wx d 134 2 ls st σ Q ↔ Lr (lget ls 0) (fun z => Wx d 134 3 ls (.inr (.inl z) :: st) σ Q) := u_aload_n d134_2
theorem d134_3 : decode (mB 134) 3 = .ok (.iload_n 1, 1) := by decide +kernel
theorem u134_3 {d : Nat} {ls : Lo} {st : List Va} {σ : Sg} {Q : Rs → Sg → Prop} : Wx d 134 3 ls st σ Q ↔ Li (lget ls 1) (fun z => Wx d 134 4 ls (vi z :: st) σ Q) := u_iload_n d134_3
theorem d134_4 : decode (mB 134) 4 = .ok (.iload_n 2, 1) := by decide +kernel
theorem u134_4 {d : Nat} {ls : Lo} {st : List Va} {σ : Sg} {Q : Rs → Sg → Prop} : Wx d 134 4 ls st σ Q ↔ Li (lget ls 2) (fun z => Wx d 134 5 ls (vi z :: st) σ Q) := u_iload_n d134_4
theorem d134_5 : decode (mB 134) 5 = .ok (.invokevirtual 29, 3) := by decide +kernel
theorem u134_5 {d : Nat} {ls : Lo} {st : List Va} {σ : Sg} {Q : Rs → Sg → Prop} {g j : Nat} {a1 a2 : Va} : Wx (d + 1) 134 5 ls (a2 :: a1 :: vr g j :: st) σ Q ↔ (isO g j 0 ∧ st.length ≤ 4 ∧ nlg [a2, a1] = true) ∧ Wm d 4 [vr g j, a1, a2] σ (Kc (d + 1) 134 8 ls st Q) := u_inv2 d134_5 rfl rfl rfl
theorem d134_8 : decode (mB 134) 8 = .ok (.i2l, 1) := by decide +kernel
theorem u134_8 {d : Nat} {ls : Lo} {st : List Va} {σ : Sg} {Q : Rs → Sg → Prop} {a : Int} (h : -2147483648 ≤ a ∧ a ≤ 2147483647) : Wx d 134 8 ls (vi a :: st) σ Q ↔ Wx d 134 9 ls (vl a :: st) σ Q := u_i2l d134_8 h
theorem d134_9 : decode (mB 134) 9 = .ok (.lastore, 1) := by decide +kernel
theorem u134_9 {d : Nat} {ls : Lo} {st : List Va} {σ : Sg} {Q : Rs → Sg → Prop} {x z : Int} {g j : Nat} : Wx d 134 9 ls (vl x :: vi z :: vr g j :: st) σ Q ↔ isA g j 4 z ∧ Wx d 134 10 ls st (up σ g j z.toNat x) Q := u_last d134_9
theorem d134_10 : decode (mB 134) 10 = .ok (.goto 15, 3) := by decide +kernel
theorem u134_10 {d : Nat} {ls : Lo} {st : List Va} {σ : Sg} {Q : Rs → Sg → Prop} : Wx d 134 10 ls st σ Q ↔ Wx d 134 25 ls st σ Q := u_goto d134_10 (by decide)
theorem d134_13 : decode (mB 134) 13 = .ok (.astore 4, 2) := by decide +kernel
theorem u134_13 {d : Nat} {ls : Lo} {st : List Va} {σ : Sg} {Q : Rs → Sg → Prop} {g j : Nat} : Wx d 134 13 ls (vr g j :: st) σ Q ↔ Wx d 134 15 (lset ls 4 (vr g j)) st σ Q := u_astore d134_13 (by decide)
theorem d134_15 : decode (mB 134) 15 = .ok (.iconst 1, 1) := by decide +kernel
theorem u134_15 {d : Nat} {ls : Lo} {st : List Va} {σ : Sg} {Q : Rs → Sg → Prop} : Wx d 134 15 ls st σ Q ↔ Wx d 134 16 ls (vi 1 :: st) σ Q := u_iconst d134_15
theorem d134_16 : decode (mB 134) 16 = .ok (.ireturn, 1) := by decide +kernel
theorem u134_16 {d : Nat} {ls : Lo} {σ : Sg} {Q : Rs → Sg → Prop} {z : Int} : Wx d 134 16 ls [vi z] σ Q ↔ Q (.inl (some (vi z))) σ := u_iret d134_16 rfl
theorem d134_17 : decode (mB 134) 17 = .ok (.astore 4, 2) := by decide +kernel
theorem u134_17 {d : Nat} {ls : Lo} {st : List Va} {σ : Sg} {Q : Rs → Sg → Prop} {g j : Nat} : Wx d 134 17 ls (vr g j :: st) σ Q ↔ Wx d 134 19 (lset ls 4 (vr g j)) st σ Q := u_astore d134_17 (by decide)
theorem d134_19 : decode (mB 134) 19 = .ok (.iconst 2, 1) := by decide +kernel
theorem u134_19 {d : Nat} {ls : Lo} {st : List Va} {σ : Sg} {Q : Rs → Sg → Prop} : Wx d 134 19 ls st σ Q ↔ Wx d 134 20 ls (vi 2 :: st) σ Q := u_iconst d134_19
theorem d134_20 : decode (mB 134) 20 = .ok (.ireturn, 1) := by decide +kernel
theorem u134_20 {d : Nat} {ls : Lo} {σ : Sg} {Q : Rs → Sg → Prop} {z : Int} : Wx d 134 20 ls [vi z] σ Q ↔ Q (.inl (some (vi z))) σ := u_iret d134_20 rfl
theorem d134_21 : decode (mB 134) 21 = .ok (.astore 4, 2) := by decide +kernel
theorem u134_21 {d : Nat} {ls : Lo} {st : List Va} {σ : Sg} {Q : Rs → Sg → Prop} {g j : Nat} : Wx d 134 21 ls (vr g j :: st) σ Q ↔ Wx d 134 23 (lset ls 4 (vr g j)) st σ Q := u_astore d134_21 (by decide)
theorem d134_23 : decode (mB 134) 23 = .ok (.iconst 3, 1) := by decide +kernel
theorem u134_23 {d : Nat} {ls : Lo} {st : List Va} {σ : Sg} {Q : Rs → Sg → Prop} : Wx d 134 23 ls st σ Q ↔ Wx d 134 24 ls (vi 3 :: st) σ Q := u_iconst d134_23
theorem d134_24 : decode (mB 134) 24 = .ok (.ireturn, 1) := by decide +kernel
theorem u134_24 {d : Nat} {ls : Lo} {σ : Sg} {Q : Rs → Sg → Prop} {z : Int} : Wx d 134 24 ls [vi z] σ Q ↔ Q (.inl (some (vi z))) σ := u_iret d134_24 rfl
theorem d134_25 : decode (mB 134) 25 = .ok (.iconst 0, 1) := by decide +kernel
theorem u134_25 {d : Nat} {ls : Lo} {st : List Va} {σ : Sg} {Q : Rs → Sg → Prop} : Wx d 134 25 ls st σ Q ↔ Wx d 134 26 ls (vi 0 :: st) σ Q := u_iconst d134_25
theorem d134_26 : decode (mB 134) 26 = .ok (.ireturn, 1) := by decide +kernel
theorem u134_26 {d : Nat} {ls : Lo} {σ : Sg} {Q : Rs → Sg → Prop} {z : Int} : Wx d 134 26 ls [vi z] σ Q ↔ Q (.inl (some (vi z))) σ := u_iret d134_26 rfl
/-! 135: FiguredBassLaw.places(LFiguredBass;I[J)I -/
theorem d135_0 : decode (mB 135) 0 = .ok (.aload_n 2, 1) := by decide +kernel
theorem u135_0 {d : Nat} {ls : Lo} {st : List Va} {σ : Sg} {Q : Rs → Sg → Prop} : Wx d 135 0 ls st σ Q ↔ Lr (lget ls 2) (fun z => Wx d 135 1 ls (.inr (.inl z) :: st) σ Q) := u_aload_n d135_0
theorem d135_1 : decode (mB 135) 1 = .ok (.iconst 0, 1) := by decide +kernel
theorem u135_1 {d : Nat} {ls : Lo} {st : List Va} {σ : Sg} {Q : Rs → Sg → Prop} : Wx d 135 1 ls st σ Q ↔ Wx d 135 2 ls (vi 0 :: st) σ Q := u_iconst d135_1
theorem d135_2 : decode (mB 135) 2 = .ok (.aload_n 0, 1) := by decide +kernel
theorem u135_2 {d : Nat} {ls : Lo} {st : List Va} {σ : Sg} {Q : Rs → Sg → Prop} : Wx d 135 2 ls st σ Q ↔ Lr (lget ls 0) (fun z => Wx d 135 3 ls (.inr (.inl z) :: st) σ Q) := u_aload_n d135_2
theorem d135_3 : decode (mB 135) 3 = .ok (.iload_n 1, 1) := by decide +kernel
theorem u135_3 {d : Nat} {ls : Lo} {st : List Va} {σ : Sg} {Q : Rs → Sg → Prop} : Wx d 135 3 ls st σ Q ↔ Li (lget ls 1) (fun z => Wx d 135 4 ls (vi z :: st) σ Q) := u_iload_n d135_3
theorem d135_4 : decode (mB 135) 4 = .ok (.invokevirtual 35, 3) := by decide +kernel
theorem u135_4 {d : Nat} {ls : Lo} {st : List Va} {σ : Sg} {Q : Rs → Sg → Prop} {g j : Nat} {a1 : Va} : Wx (d + 1) 135 4 ls (a1 :: vr g j :: st) σ Q ↔ (isO g j 0 ∧ st.length ≤ 4 ∧ nlg [a1] = true) ∧ Wm d 5 [vr g j, a1] σ (Kc (d + 1) 135 7 ls st Q) := u_inv1 d135_4 rfl rfl rfl
theorem d135_7 : decode (mB 135) 7 = .ok (.i2l, 1) := by decide +kernel
theorem u135_7 {d : Nat} {ls : Lo} {st : List Va} {σ : Sg} {Q : Rs → Sg → Prop} {a : Int} (h : -2147483648 ≤ a ∧ a ≤ 2147483647) : Wx d 135 7 ls (vi a :: st) σ Q ↔ Wx d 135 8 ls (vl a :: st) σ Q := u_i2l d135_7 h
theorem d135_8 : decode (mB 135) 8 = .ok (.lastore, 1) := by decide +kernel
theorem u135_8 {d : Nat} {ls : Lo} {st : List Va} {σ : Sg} {Q : Rs → Sg → Prop} {x z : Int} {g j : Nat} : Wx d 135 8 ls (vl x :: vi z :: vr g j :: st) σ Q ↔ isA g j 4 z ∧ Wx d 135 9 ls st (up σ g j z.toNat x) Q := u_last d135_8
theorem d135_9 : decode (mB 135) 9 = .ok (.goto 9, 3) := by decide +kernel
theorem u135_9 {d : Nat} {ls : Lo} {st : List Va} {σ : Sg} {Q : Rs → Sg → Prop} : Wx d 135 9 ls st σ Q ↔ Wx d 135 18 ls st σ Q := u_goto d135_9 (by decide)
theorem d135_12 : decode (mB 135) 12 = .ok (.astore_n 3, 1) := by decide +kernel
theorem u135_12 {d : Nat} {ls : Lo} {st : List Va} {σ : Sg} {Q : Rs → Sg → Prop} {g j : Nat} : Wx d 135 12 ls (vr g j :: st) σ Q ↔ Wx d 135 13 (lset ls 3 (vr g j)) st σ Q := u_astore_n d135_12 (by decide)
theorem d135_13 : decode (mB 135) 13 = .ok (.iconst 1, 1) := by decide +kernel
theorem u135_13 {d : Nat} {ls : Lo} {st : List Va} {σ : Sg} {Q : Rs → Sg → Prop} : Wx d 135 13 ls st σ Q ↔ Wx d 135 14 ls (vi 1 :: st) σ Q := u_iconst d135_13
theorem d135_14 : decode (mB 135) 14 = .ok (.ireturn, 1) := by decide +kernel
theorem u135_14 {d : Nat} {ls : Lo} {σ : Sg} {Q : Rs → Sg → Prop} {z : Int} : Wx d 135 14 ls [vi z] σ Q ↔ Q (.inl (some (vi z))) σ := u_iret d135_14 rfl
theorem d135_15 : decode (mB 135) 15 = .ok (.astore_n 3, 1) := by decide +kernel
theorem u135_15 {d : Nat} {ls : Lo} {st : List Va} {σ : Sg} {Q : Rs → Sg → Prop} {g j : Nat} : Wx d 135 15 ls (vr g j :: st) σ Q ↔ Wx d 135 16 (lset ls 3 (vr g j)) st σ Q := u_astore_n d135_15 (by decide)
theorem d135_16 : decode (mB 135) 16 = .ok (.iconst 2, 1) := by decide +kernel
theorem u135_16 {d : Nat} {ls : Lo} {st : List Va} {σ : Sg} {Q : Rs → Sg → Prop} : Wx d 135 16 ls st σ Q ↔ Wx d 135 17 ls (vi 2 :: st) σ Q := u_iconst d135_16
theorem d135_17 : decode (mB 135) 17 = .ok (.ireturn, 1) := by decide +kernel
theorem u135_17 {d : Nat} {ls : Lo} {σ : Sg} {Q : Rs → Sg → Prop} {z : Int} : Wx d 135 17 ls [vi z] σ Q ↔ Q (.inl (some (vi z))) σ := u_iret d135_17 rfl
theorem d135_18 : decode (mB 135) 18 = .ok (.iconst 0, 1) := by decide +kernel
theorem u135_18 {d : Nat} {ls : Lo} {st : List Va} {σ : Sg} {Q : Rs → Sg → Prop} : Wx d 135 18 ls st σ Q ↔ Wx d 135 19 ls (vi 0 :: st) σ Q := u_iconst d135_18
theorem d135_19 : decode (mB 135) 19 = .ok (.ireturn, 1) := by decide +kernel
theorem u135_19 {d : Nat} {ls : Lo} {σ : Sg} {Q : Rs → Sg → Prop} {z : Int} : Wx d 135 19 ls [vi z] σ Q ↔ Q (.inl (some (vi z))) σ := u_iret d135_19 rfl
/-! 136: FiguredBassLaw.place(LFiguredBass;III[J)I -/
theorem d136_0 : decode (mB 136) 0 = .ok (.aload 4, 2) := by decide +kernel
theorem u136_0 {d : Nat} {ls : Lo} {st : List Va} {σ : Sg} {Q : Rs → Sg → Prop} : Wx d 136 0 ls st σ Q ↔ Lr (lget ls 4) (fun z => Wx d 136 2 ls (.inr (.inl z) :: st) σ Q) := u_aload d136_0
theorem d136_2 : decode (mB 136) 2 = .ok (.iconst 0, 1) := by decide +kernel
theorem u136_2 {d : Nat} {ls : Lo} {st : List Va} {σ : Sg} {Q : Rs → Sg → Prop} : Wx d 136 2 ls st σ Q ↔ Wx d 136 3 ls (vi 0 :: st) σ Q := u_iconst d136_2
theorem d136_3 : decode (mB 136) 3 = .ok (.aload_n 0, 1) := by decide +kernel
theorem u136_3 {d : Nat} {ls : Lo} {st : List Va} {σ : Sg} {Q : Rs → Sg → Prop} : Wx d 136 3 ls st σ Q ↔ Lr (lget ls 0) (fun z => Wx d 136 4 ls (.inr (.inl z) :: st) σ Q) := u_aload_n d136_3
theorem d136_4 : decode (mB 136) 4 = .ok (.iload_n 1, 1) := by decide +kernel
theorem u136_4 {d : Nat} {ls : Lo} {st : List Va} {σ : Sg} {Q : Rs → Sg → Prop} : Wx d 136 4 ls st σ Q ↔ Li (lget ls 1) (fun z => Wx d 136 5 ls (vi z :: st) σ Q) := u_iload_n d136_4
theorem d136_5 : decode (mB 136) 5 = .ok (.iload_n 2, 1) := by decide +kernel
theorem u136_5 {d : Nat} {ls : Lo} {st : List Va} {σ : Sg} {Q : Rs → Sg → Prop} : Wx d 136 5 ls st σ Q ↔ Li (lget ls 2) (fun z => Wx d 136 6 ls (vi z :: st) σ Q) := u_iload_n d136_5
theorem d136_6 : decode (mB 136) 6 = .ok (.iload_n 3, 1) := by decide +kernel
theorem u136_6 {d : Nat} {ls : Lo} {st : List Va} {σ : Sg} {Q : Rs → Sg → Prop} : Wx d 136 6 ls st σ Q ↔ Li (lget ls 3) (fun z => Wx d 136 7 ls (vi z :: st) σ Q) := u_iload_n d136_6
theorem d136_7 : decode (mB 136) 7 = .ok (.invokevirtual 39, 3) := by decide +kernel
theorem u136_7 {d : Nat} {ls : Lo} {st : List Va} {σ : Sg} {Q : Rs → Sg → Prop} {g j : Nat} {a1 a2 a3 : Va} : Wx (d + 1) 136 7 ls (a3 :: a2 :: a1 :: vr g j :: st) σ Q ↔ (isO g j 0 ∧ st.length ≤ 4 ∧ nlg [a3, a2, a1] = true) ∧ Wm d 6 [vr g j, a1, a2, a3] σ (Kc (d + 1) 136 10 ls st Q) := u_inv3 d136_7 rfl rfl rfl
theorem d136_10 : decode (mB 136) 10 = .ok (.i2l, 1) := by decide +kernel
theorem u136_10 {d : Nat} {ls : Lo} {st : List Va} {σ : Sg} {Q : Rs → Sg → Prop} {a : Int} (h : -2147483648 ≤ a ∧ a ≤ 2147483647) : Wx d 136 10 ls (vi a :: st) σ Q ↔ Wx d 136 11 ls (vl a :: st) σ Q := u_i2l d136_10 h
theorem d136_11 : decode (mB 136) 11 = .ok (.lastore, 1) := by decide +kernel
theorem u136_11 {d : Nat} {ls : Lo} {st : List Va} {σ : Sg} {Q : Rs → Sg → Prop} {x z : Int} {g j : Nat} : Wx d 136 11 ls (vl x :: vi z :: vr g j :: st) σ Q ↔ isA g j 4 z ∧ Wx d 136 12 ls st (up σ g j z.toNat x) Q := u_last d136_11
theorem d136_12 : decode (mB 136) 12 = .ok (.goto 15, 3) := by decide +kernel
theorem u136_12 {d : Nat} {ls : Lo} {st : List Va} {σ : Sg} {Q : Rs → Sg → Prop} : Wx d 136 12 ls st σ Q ↔ Wx d 136 27 ls st σ Q := u_goto d136_12 (by decide)
theorem d136_15 : decode (mB 136) 15 = .ok (.astore 5, 2) := by decide +kernel
theorem u136_15 {d : Nat} {ls : Lo} {st : List Va} {σ : Sg} {Q : Rs → Sg → Prop} {g j : Nat} : Wx d 136 15 ls (vr g j :: st) σ Q ↔ Wx d 136 17 (lset ls 5 (vr g j)) st σ Q := u_astore d136_15 (by decide)
theorem d136_17 : decode (mB 136) 17 = .ok (.iconst 1, 1) := by decide +kernel
theorem u136_17 {d : Nat} {ls : Lo} {st : List Va} {σ : Sg} {Q : Rs → Sg → Prop} : Wx d 136 17 ls st σ Q ↔ Wx d 136 18 ls (vi 1 :: st) σ Q := u_iconst d136_17
theorem d136_18 : decode (mB 136) 18 = .ok (.ireturn, 1) := by decide +kernel
theorem u136_18 {d : Nat} {ls : Lo} {σ : Sg} {Q : Rs → Sg → Prop} {z : Int} : Wx d 136 18 ls [vi z] σ Q ↔ Q (.inl (some (vi z))) σ := u_iret d136_18 rfl
theorem d136_19 : decode (mB 136) 19 = .ok (.astore 5, 2) := by decide +kernel
theorem u136_19 {d : Nat} {ls : Lo} {st : List Va} {σ : Sg} {Q : Rs → Sg → Prop} {g j : Nat} : Wx d 136 19 ls (vr g j :: st) σ Q ↔ Wx d 136 21 (lset ls 5 (vr g j)) st σ Q := u_astore d136_19 (by decide)
theorem d136_21 : decode (mB 136) 21 = .ok (.iconst 2, 1) := by decide +kernel
theorem u136_21 {d : Nat} {ls : Lo} {st : List Va} {σ : Sg} {Q : Rs → Sg → Prop} : Wx d 136 21 ls st σ Q ↔ Wx d 136 22 ls (vi 2 :: st) σ Q := u_iconst d136_21
theorem d136_22 : decode (mB 136) 22 = .ok (.ireturn, 1) := by decide +kernel
theorem u136_22 {d : Nat} {ls : Lo} {σ : Sg} {Q : Rs → Sg → Prop} {z : Int} : Wx d 136 22 ls [vi z] σ Q ↔ Q (.inl (some (vi z))) σ := u_iret d136_22 rfl
theorem d136_23 : decode (mB 136) 23 = .ok (.astore 5, 2) := by decide +kernel
theorem u136_23 {d : Nat} {ls : Lo} {st : List Va} {σ : Sg} {Q : Rs → Sg → Prop} {g j : Nat} : Wx d 136 23 ls (vr g j :: st) σ Q ↔ Wx d 136 25 (lset ls 5 (vr g j)) st σ Q := u_astore d136_23 (by decide)
theorem d136_25 : decode (mB 136) 25 = .ok (.iconst 3, 1) := by decide +kernel
theorem u136_25 {d : Nat} {ls : Lo} {st : List Va} {σ : Sg} {Q : Rs → Sg → Prop} : Wx d 136 25 ls st σ Q ↔ Wx d 136 26 ls (vi 3 :: st) σ Q := u_iconst d136_25
theorem d136_26 : decode (mB 136) 26 = .ok (.ireturn, 1) := by decide +kernel
theorem u136_26 {d : Nat} {ls : Lo} {σ : Sg} {Q : Rs → Sg → Prop} {z : Int} : Wx d 136 26 ls [vi z] σ Q ↔ Q (.inl (some (vi z))) σ := u_iret d136_26 rfl
theorem d136_27 : decode (mB 136) 27 = .ok (.iconst 0, 1) := by decide +kernel
theorem u136_27 {d : Nat} {ls : Lo} {st : List Va} {σ : Sg} {Q : Rs → Sg → Prop} : Wx d 136 27 ls st σ Q ↔ Wx d 136 28 ls (vi 0 :: st) σ Q := u_iconst d136_27
theorem d136_28 : decode (mB 136) 28 = .ok (.ireturn, 1) := by decide +kernel
theorem u136_28 {d : Nat} {ls : Lo} {σ : Sg} {Q : Rs → Sg → Prop} {z : Int} : Wx d 136 28 ls [vi z] σ Q ↔ Q (.inl (some (vi z))) σ := u_iret d136_28 rfl
/-! 137: FiguredBassLaw.realise(LFiguredBass;[J)I -/
theorem d137_0 : decode (mB 137) 0 = .ok (.aload_n 1, 1) := by decide +kernel
theorem u137_0 {d : Nat} {ls : Lo} {st : List Va} {σ : Sg} {Q : Rs → Sg → Prop} : Wx d 137 0 ls st σ Q ↔ Lr (lget ls 1) (fun z => Wx d 137 1 ls (.inr (.inl z) :: st) σ Q) := u_aload_n d137_0
theorem d137_1 : decode (mB 137) 1 = .ok (.iconst 0, 1) := by decide +kernel
theorem u137_1 {d : Nat} {ls : Lo} {st : List Va} {σ : Sg} {Q : Rs → Sg → Prop} : Wx d 137 1 ls st σ Q ↔ Wx d 137 2 ls (vi 0 :: st) σ Q := u_iconst d137_1
theorem d137_2 : decode (mB 137) 2 = .ok (.aload_n 0, 1) := by decide +kernel
theorem u137_2 {d : Nat} {ls : Lo} {st : List Va} {σ : Sg} {Q : Rs → Sg → Prop} : Wx d 137 2 ls st σ Q ↔ Lr (lget ls 0) (fun z => Wx d 137 3 ls (.inr (.inl z) :: st) σ Q) := u_aload_n d137_2
theorem d137_3 : decode (mB 137) 3 = .ok (.invokevirtual 42, 3) := by decide +kernel
theorem u137_3 {d : Nat} {ls : Lo} {st : List Va} {σ : Sg} {Q : Rs → Sg → Prop} {g j : Nat} : Wx (d + 1) 137 3 ls (vr g j :: st) σ Q ↔ (isO g j 0 ∧ st.length ≤ 4 ∧ nlg [] = true) ∧ Wm d 7 [vr g j] σ (Kc (d + 1) 137 6 ls st Q) := u_inv0 d137_3 rfl rfl rfl
theorem d137_6 : decode (mB 137) 6 = .ok (.i2l, 1) := by decide +kernel
theorem u137_6 {d : Nat} {ls : Lo} {st : List Va} {σ : Sg} {Q : Rs → Sg → Prop} {a : Int} (h : -2147483648 ≤ a ∧ a ≤ 2147483647) : Wx d 137 6 ls (vi a :: st) σ Q ↔ Wx d 137 7 ls (vl a :: st) σ Q := u_i2l d137_6 h
theorem d137_7 : decode (mB 137) 7 = .ok (.lastore, 1) := by decide +kernel
theorem u137_7 {d : Nat} {ls : Lo} {st : List Va} {σ : Sg} {Q : Rs → Sg → Prop} {x z : Int} {g j : Nat} : Wx d 137 7 ls (vl x :: vi z :: vr g j :: st) σ Q ↔ isA g j 4 z ∧ Wx d 137 8 ls st (up σ g j z.toNat x) Q := u_last d137_7
theorem d137_8 : decode (mB 137) 8 = .ok (.goto 6, 3) := by decide +kernel
theorem u137_8 {d : Nat} {ls : Lo} {st : List Va} {σ : Sg} {Q : Rs → Sg → Prop} : Wx d 137 8 ls st σ Q ↔ Wx d 137 14 ls st σ Q := u_goto d137_8 (by decide)
theorem d137_11 : decode (mB 137) 11 = .ok (.astore_n 2, 1) := by decide +kernel
theorem u137_11 {d : Nat} {ls : Lo} {st : List Va} {σ : Sg} {Q : Rs → Sg → Prop} {g j : Nat} : Wx d 137 11 ls (vr g j :: st) σ Q ↔ Wx d 137 12 (lset ls 2 (vr g j)) st σ Q := u_astore_n d137_11 (by decide)
theorem d137_12 : decode (mB 137) 12 = .ok (.iconst 1, 1) := by decide +kernel
theorem u137_12 {d : Nat} {ls : Lo} {st : List Va} {σ : Sg} {Q : Rs → Sg → Prop} : Wx d 137 12 ls st σ Q ↔ Wx d 137 13 ls (vi 1 :: st) σ Q := u_iconst d137_12
theorem d137_13 : decode (mB 137) 13 = .ok (.ireturn, 1) := by decide +kernel
theorem u137_13 {d : Nat} {ls : Lo} {σ : Sg} {Q : Rs → Sg → Prop} {z : Int} : Wx d 137 13 ls [vi z] σ Q ↔ Q (.inl (some (vi z))) σ := u_iret d137_13 rfl
theorem d137_14 : decode (mB 137) 14 = .ok (.iconst 0, 1) := by decide +kernel
theorem u137_14 {d : Nat} {ls : Lo} {st : List Va} {σ : Sg} {Q : Rs → Sg → Prop} : Wx d 137 14 ls st σ Q ↔ Wx d 137 15 ls (vi 0 :: st) σ Q := u_iconst d137_14
theorem d137_15 : decode (mB 137) 15 = .ok (.ireturn, 1) := by decide +kernel
theorem u137_15 {d : Nat} {ls : Lo} {σ : Sg} {Q : Rs → Sg → Prop} {z : Int} : Wx d 137 15 ls [vi z] σ Q ↔ Q (.inl (some (vi z))) σ := u_iret d137_15 rfl
/-! 138: FiguredBassLaw.note(LFiguredBass;II[J)I -/
theorem d138_0 : decode (mB 138) 0 = .ok (.aload_n 3, 1) := by decide +kernel
theorem u138_0 {d : Nat} {ls : Lo} {st : List Va} {σ : Sg} {Q : Rs → Sg → Prop} : Wx d 138 0 ls st σ Q ↔ Lr (lget ls 3) (fun z => Wx d 138 1 ls (.inr (.inl z) :: st) σ Q) := u_aload_n d138_0
theorem d138_1 : decode (mB 138) 1 = .ok (.iconst 0, 1) := by decide +kernel
theorem u138_1 {d : Nat} {ls : Lo} {st : List Va} {σ : Sg} {Q : Rs → Sg → Prop} : Wx d 138 1 ls st σ Q ↔ Wx d 138 2 ls (vi 0 :: st) σ Q := u_iconst d138_1
theorem d138_2 : decode (mB 138) 2 = .ok (.aload_n 0, 1) := by decide +kernel
theorem u138_2 {d : Nat} {ls : Lo} {st : List Va} {σ : Sg} {Q : Rs → Sg → Prop} : Wx d 138 2 ls st σ Q ↔ Lr (lget ls 0) (fun z => Wx d 138 3 ls (.inr (.inl z) :: st) σ Q) := u_aload_n d138_2
theorem d138_3 : decode (mB 138) 3 = .ok (.iload_n 1, 1) := by decide +kernel
theorem u138_3 {d : Nat} {ls : Lo} {st : List Va} {σ : Sg} {Q : Rs → Sg → Prop} : Wx d 138 3 ls st σ Q ↔ Li (lget ls 1) (fun z => Wx d 138 4 ls (vi z :: st) σ Q) := u_iload_n d138_3
theorem d138_4 : decode (mB 138) 4 = .ok (.iload_n 2, 1) := by decide +kernel
theorem u138_4 {d : Nat} {ls : Lo} {st : List Va} {σ : Sg} {Q : Rs → Sg → Prop} : Wx d 138 4 ls st σ Q ↔ Li (lget ls 2) (fun z => Wx d 138 5 ls (vi z :: st) σ Q) := u_iload_n d138_4
theorem d138_5 : decode (mB 138) 5 = .ok (.invokevirtual 46, 3) := by decide +kernel
theorem u138_5 {d : Nat} {ls : Lo} {st : List Va} {σ : Sg} {Q : Rs → Sg → Prop} {g j : Nat} {a1 a2 : Va} : Wx (d + 1) 138 5 ls (a2 :: a1 :: vr g j :: st) σ Q ↔ (isO g j 0 ∧ st.length ≤ 4 ∧ nlg [a2, a1] = true) ∧ Wm d 8 [vr g j, a1, a2] σ (Kc (d + 1) 138 8 ls st Q) := u_inv2 d138_5 rfl rfl rfl
theorem d138_8 : decode (mB 138) 8 = .ok (.i2l, 1) := by decide +kernel
theorem u138_8 {d : Nat} {ls : Lo} {st : List Va} {σ : Sg} {Q : Rs → Sg → Prop} {a : Int} (h : -2147483648 ≤ a ∧ a ≤ 2147483647) : Wx d 138 8 ls (vi a :: st) σ Q ↔ Wx d 138 9 ls (vl a :: st) σ Q := u_i2l d138_8 h
theorem d138_9 : decode (mB 138) 9 = .ok (.lastore, 1) := by decide +kernel
theorem u138_9 {d : Nat} {ls : Lo} {st : List Va} {σ : Sg} {Q : Rs → Sg → Prop} {x z : Int} {g j : Nat} : Wx d 138 9 ls (vl x :: vi z :: vr g j :: st) σ Q ↔ isA g j 4 z ∧ Wx d 138 10 ls st (up σ g j z.toNat x) Q := u_last d138_9
theorem d138_10 : decode (mB 138) 10 = .ok (.goto 11, 3) := by decide +kernel
theorem u138_10 {d : Nat} {ls : Lo} {st : List Va} {σ : Sg} {Q : Rs → Sg → Prop} : Wx d 138 10 ls st σ Q ↔ Wx d 138 21 ls st σ Q := u_goto d138_10 (by decide)
theorem d138_13 : decode (mB 138) 13 = .ok (.astore 4, 2) := by decide +kernel
theorem u138_13 {d : Nat} {ls : Lo} {st : List Va} {σ : Sg} {Q : Rs → Sg → Prop} {g j : Nat} : Wx d 138 13 ls (vr g j :: st) σ Q ↔ Wx d 138 15 (lset ls 4 (vr g j)) st σ Q := u_astore d138_13 (by decide)
theorem d138_15 : decode (mB 138) 15 = .ok (.iconst 1, 1) := by decide +kernel
theorem u138_15 {d : Nat} {ls : Lo} {st : List Va} {σ : Sg} {Q : Rs → Sg → Prop} : Wx d 138 15 ls st σ Q ↔ Wx d 138 16 ls (vi 1 :: st) σ Q := u_iconst d138_15
theorem d138_16 : decode (mB 138) 16 = .ok (.ireturn, 1) := by decide +kernel
theorem u138_16 {d : Nat} {ls : Lo} {σ : Sg} {Q : Rs → Sg → Prop} {z : Int} : Wx d 138 16 ls [vi z] σ Q ↔ Q (.inl (some (vi z))) σ := u_iret d138_16 rfl
theorem d138_17 : decode (mB 138) 17 = .ok (.astore 4, 2) := by decide +kernel
theorem u138_17 {d : Nat} {ls : Lo} {st : List Va} {σ : Sg} {Q : Rs → Sg → Prop} {g j : Nat} : Wx d 138 17 ls (vr g j :: st) σ Q ↔ Wx d 138 19 (lset ls 4 (vr g j)) st σ Q := u_astore d138_17 (by decide)
theorem d138_19 : decode (mB 138) 19 = .ok (.iconst 2, 1) := by decide +kernel
theorem u138_19 {d : Nat} {ls : Lo} {st : List Va} {σ : Sg} {Q : Rs → Sg → Prop} : Wx d 138 19 ls st σ Q ↔ Wx d 138 20 ls (vi 2 :: st) σ Q := u_iconst d138_19
theorem d138_20 : decode (mB 138) 20 = .ok (.ireturn, 1) := by decide +kernel
theorem u138_20 {d : Nat} {ls : Lo} {σ : Sg} {Q : Rs → Sg → Prop} {z : Int} : Wx d 138 20 ls [vi z] σ Q ↔ Q (.inl (some (vi z))) σ := u_iret d138_20 rfl
theorem d138_21 : decode (mB 138) 21 = .ok (.iconst 0, 1) := by decide +kernel
theorem u138_21 {d : Nat} {ls : Lo} {st : List Va} {σ : Sg} {Q : Rs → Sg → Prop} : Wx d 138 21 ls st σ Q ↔ Wx d 138 22 ls (vi 0 :: st) σ Q := u_iconst d138_21
theorem d138_22 : decode (mB 138) 22 = .ok (.ireturn, 1) := by decide +kernel
theorem u138_22 {d : Nat} {ls : Lo} {σ : Sg} {Q : Rs → Sg → Prop} {z : Int} : Wx d 138 22 ls [vi z] σ Q ↔ Q (.inl (some (vi z))) σ := u_iret d138_22 rfl
/-! 139: FiguredBassLaw.cost(LFiguredBass;I[J)I -/
theorem d139_0 : decode (mB 139) 0 = .ok (.aload_n 2, 1) := by decide +kernel
theorem u139_0 {d : Nat} {ls : Lo} {st : List Va} {σ : Sg} {Q : Rs → Sg → Prop} : Wx d 139 0 ls st σ Q ↔ Lr (lget ls 2) (fun z => Wx d 139 1 ls (.inr (.inl z) :: st) σ Q) := u_aload_n d139_0
theorem d139_1 : decode (mB 139) 1 = .ok (.iconst 0, 1) := by decide +kernel
theorem u139_1 {d : Nat} {ls : Lo} {st : List Va} {σ : Sg} {Q : Rs → Sg → Prop} : Wx d 139 1 ls st σ Q ↔ Wx d 139 2 ls (vi 0 :: st) σ Q := u_iconst d139_1
theorem d139_2 : decode (mB 139) 2 = .ok (.aload_n 0, 1) := by decide +kernel
theorem u139_2 {d : Nat} {ls : Lo} {st : List Va} {σ : Sg} {Q : Rs → Sg → Prop} : Wx d 139 2 ls st σ Q ↔ Lr (lget ls 0) (fun z => Wx d 139 3 ls (.inr (.inl z) :: st) σ Q) := u_aload_n d139_2
theorem d139_3 : decode (mB 139) 3 = .ok (.iload_n 1, 1) := by decide +kernel
theorem u139_3 {d : Nat} {ls : Lo} {st : List Va} {σ : Sg} {Q : Rs → Sg → Prop} : Wx d 139 3 ls st σ Q ↔ Li (lget ls 1) (fun z => Wx d 139 4 ls (vi z :: st) σ Q) := u_iload_n d139_3
theorem d139_4 : decode (mB 139) 4 = .ok (.invokevirtual 49, 3) := by decide +kernel
theorem u139_4 {d : Nat} {ls : Lo} {st : List Va} {σ : Sg} {Q : Rs → Sg → Prop} {g j : Nat} {a1 : Va} : Wx (d + 1) 139 4 ls (a1 :: vr g j :: st) σ Q ↔ (isO g j 0 ∧ st.length ≤ 4 ∧ nlg [a1] = true) ∧ Wm d 9 [vr g j, a1] σ (Kc (d + 1) 139 7 ls st Q) := u_inv1 d139_4 rfl rfl rfl
theorem d139_7 : decode (mB 139) 7 = .ok (.i2l, 1) := by decide +kernel
theorem u139_7 {d : Nat} {ls : Lo} {st : List Va} {σ : Sg} {Q : Rs → Sg → Prop} {a : Int} (h : -2147483648 ≤ a ∧ a ≤ 2147483647) : Wx d 139 7 ls (vi a :: st) σ Q ↔ Wx d 139 8 ls (vl a :: st) σ Q := u_i2l d139_7 h
theorem d139_8 : decode (mB 139) 8 = .ok (.lastore, 1) := by decide +kernel
theorem u139_8 {d : Nat} {ls : Lo} {st : List Va} {σ : Sg} {Q : Rs → Sg → Prop} {x z : Int} {g j : Nat} : Wx d 139 8 ls (vl x :: vi z :: vr g j :: st) σ Q ↔ isA g j 4 z ∧ Wx d 139 9 ls st (up σ g j z.toNat x) Q := u_last d139_8
theorem d139_9 : decode (mB 139) 9 = .ok (.goto 9, 3) := by decide +kernel
theorem u139_9 {d : Nat} {ls : Lo} {st : List Va} {σ : Sg} {Q : Rs → Sg → Prop} : Wx d 139 9 ls st σ Q ↔ Wx d 139 18 ls st σ Q := u_goto d139_9 (by decide)
theorem d139_12 : decode (mB 139) 12 = .ok (.astore_n 3, 1) := by decide +kernel
theorem u139_12 {d : Nat} {ls : Lo} {st : List Va} {σ : Sg} {Q : Rs → Sg → Prop} {g j : Nat} : Wx d 139 12 ls (vr g j :: st) σ Q ↔ Wx d 139 13 (lset ls 3 (vr g j)) st σ Q := u_astore_n d139_12 (by decide)
theorem d139_13 : decode (mB 139) 13 = .ok (.iconst 1, 1) := by decide +kernel
theorem u139_13 {d : Nat} {ls : Lo} {st : List Va} {σ : Sg} {Q : Rs → Sg → Prop} : Wx d 139 13 ls st σ Q ↔ Wx d 139 14 ls (vi 1 :: st) σ Q := u_iconst d139_13
theorem d139_14 : decode (mB 139) 14 = .ok (.ireturn, 1) := by decide +kernel
theorem u139_14 {d : Nat} {ls : Lo} {σ : Sg} {Q : Rs → Sg → Prop} {z : Int} : Wx d 139 14 ls [vi z] σ Q ↔ Q (.inl (some (vi z))) σ := u_iret d139_14 rfl
theorem d139_15 : decode (mB 139) 15 = .ok (.astore_n 3, 1) := by decide +kernel
theorem u139_15 {d : Nat} {ls : Lo} {st : List Va} {σ : Sg} {Q : Rs → Sg → Prop} {g j : Nat} : Wx d 139 15 ls (vr g j :: st) σ Q ↔ Wx d 139 16 (lset ls 3 (vr g j)) st σ Q := u_astore_n d139_15 (by decide)
theorem d139_16 : decode (mB 139) 16 = .ok (.iconst 2, 1) := by decide +kernel
theorem u139_16 {d : Nat} {ls : Lo} {st : List Va} {σ : Sg} {Q : Rs → Sg → Prop} : Wx d 139 16 ls st σ Q ↔ Wx d 139 17 ls (vi 2 :: st) σ Q := u_iconst d139_16
theorem d139_17 : decode (mB 139) 17 = .ok (.ireturn, 1) := by decide +kernel
theorem u139_17 {d : Nat} {ls : Lo} {σ : Sg} {Q : Rs → Sg → Prop} {z : Int} : Wx d 139 17 ls [vi z] σ Q ↔ Q (.inl (some (vi z))) σ := u_iret d139_17 rfl
theorem d139_18 : decode (mB 139) 18 = .ok (.iconst 0, 1) := by decide +kernel
theorem u139_18 {d : Nat} {ls : Lo} {st : List Va} {σ : Sg} {Q : Rs → Sg → Prop} : Wx d 139 18 ls st σ Q ↔ Wx d 139 19 ls (vi 0 :: st) σ Q := u_iconst d139_18
theorem d139_19 : decode (mB 139) 19 = .ok (.ireturn, 1) := by decide +kernel
theorem u139_19 {d : Nat} {ls : Lo} {σ : Sg} {Q : Rs → Sg → Prop} {z : Int} : Wx d 139 19 ls [vi z] σ Q ↔ Q (.inl (some (vi z))) σ := u_iret d139_19 rfl
/-! 140: FiguredBassLaw.pupil(LFiguredBass;III)I -/
theorem d140_0 : decode (mB 140) 0 = .ok (.aload_n 0, 1) := by decide +kernel
theorem u140_0 {d : Nat} {ls : Lo} {st : List Va} {σ : Sg} {Q : Rs → Sg → Prop} : Wx d 140 0 ls st σ Q ↔ Lr (lget ls 0) (fun z => Wx d 140 1 ls (.inr (.inl z) :: st) σ Q) := u_aload_n d140_0
theorem d140_1 : decode (mB 140) 1 = .ok (.iload_n 1, 1) := by decide +kernel
theorem u140_1 {d : Nat} {ls : Lo} {st : List Va} {σ : Sg} {Q : Rs → Sg → Prop} : Wx d 140 1 ls st σ Q ↔ Li (lget ls 1) (fun z => Wx d 140 2 ls (vi z :: st) σ Q) := u_iload_n d140_1
theorem d140_2 : decode (mB 140) 2 = .ok (.iload_n 2, 1) := by decide +kernel
theorem u140_2 {d : Nat} {ls : Lo} {st : List Va} {σ : Sg} {Q : Rs → Sg → Prop} : Wx d 140 2 ls st σ Q ↔ Li (lget ls 2) (fun z => Wx d 140 3 ls (vi z :: st) σ Q) := u_iload_n d140_2
theorem d140_3 : decode (mB 140) 3 = .ok (.iload_n 3, 1) := by decide +kernel
theorem u140_3 {d : Nat} {ls : Lo} {st : List Va} {σ : Sg} {Q : Rs → Sg → Prop} : Wx d 140 3 ls st σ Q ↔ Li (lget ls 3) (fun z => Wx d 140 4 ls (vi z :: st) σ Q) := u_iload_n d140_3
theorem d140_4 : decode (mB 140) 4 = .ok (.invokevirtual 52, 3) := by decide +kernel
theorem u140_4 {d : Nat} {ls : Lo} {st : List Va} {σ : Sg} {Q : Rs → Sg → Prop} {g j : Nat} {a1 a2 a3 : Va} : Wx (d + 1) 140 4 ls (a3 :: a2 :: a1 :: vr g j :: st) σ Q ↔ (isO g j 0 ∧ st.length ≤ 4 ∧ nlg [a3, a2, a1] = true) ∧ Wm d 10 [vr g j, a1, a2, a3] σ (Kc (d + 1) 140 7 ls st Q) := u_inv3 d140_4 rfl rfl rfl
theorem d140_7 : decode (mB 140) 7 = .ok (.goto 7, 3) := by decide +kernel
theorem u140_7 {d : Nat} {ls : Lo} {st : List Va} {σ : Sg} {Q : Rs → Sg → Prop} : Wx d 140 7 ls st σ Q ↔ Wx d 140 14 ls st σ Q := u_goto d140_7 (by decide)
theorem d140_10 : decode (mB 140) 10 = .ok (.astore 4, 2) := by decide +kernel
theorem u140_10 {d : Nat} {ls : Lo} {st : List Va} {σ : Sg} {Q : Rs → Sg → Prop} {g j : Nat} : Wx d 140 10 ls (vr g j :: st) σ Q ↔ Wx d 140 12 (lset ls 4 (vr g j)) st σ Q := u_astore d140_10 (by decide)
theorem d140_12 : decode (mB 140) 12 = .ok (.iconst 1, 1) := by decide +kernel
theorem u140_12 {d : Nat} {ls : Lo} {st : List Va} {σ : Sg} {Q : Rs → Sg → Prop} : Wx d 140 12 ls st σ Q ↔ Wx d 140 13 ls (vi 1 :: st) σ Q := u_iconst d140_12
theorem d140_13 : decode (mB 140) 13 = .ok (.ireturn, 1) := by decide +kernel
theorem u140_13 {d : Nat} {ls : Lo} {σ : Sg} {Q : Rs → Sg → Prop} {z : Int} : Wx d 140 13 ls [vi z] σ Q ↔ Q (.inl (some (vi z))) σ := u_iret d140_13 rfl
theorem d140_14 : decode (mB 140) 14 = .ok (.iconst 0, 1) := by decide +kernel
theorem u140_14 {d : Nat} {ls : Lo} {st : List Va} {σ : Sg} {Q : Rs → Sg → Prop} : Wx d 140 14 ls st σ Q ↔ Wx d 140 15 ls (vi 0 :: st) σ Q := u_iconst d140_14
theorem d140_15 : decode (mB 140) 15 = .ok (.ireturn, 1) := by decide +kernel
theorem u140_15 {d : Nat} {ls : Lo} {σ : Sg} {Q : Rs → Sg → Prop} {z : Int} : Wx d 140 15 ls [vi z] σ Q ↔ Q (.inl (some (vi z))) σ := u_iret d140_15 rfl
/-! 141: FiguredBassLaw.faults(LFiguredBass;[J)I -/
theorem d141_0 : decode (mB 141) 0 = .ok (.aload_n 1, 1) := by decide +kernel
theorem u141_0 {d : Nat} {ls : Lo} {st : List Va} {σ : Sg} {Q : Rs → Sg → Prop} : Wx d 141 0 ls st σ Q ↔ Lr (lget ls 1) (fun z => Wx d 141 1 ls (.inr (.inl z) :: st) σ Q) := u_aload_n d141_0
theorem d141_1 : decode (mB 141) 1 = .ok (.iconst 0, 1) := by decide +kernel
theorem u141_1 {d : Nat} {ls : Lo} {st : List Va} {σ : Sg} {Q : Rs → Sg → Prop} : Wx d 141 1 ls st σ Q ↔ Wx d 141 2 ls (vi 0 :: st) σ Q := u_iconst d141_1
theorem d141_2 : decode (mB 141) 2 = .ok (.aload_n 0, 1) := by decide +kernel
theorem u141_2 {d : Nat} {ls : Lo} {st : List Va} {σ : Sg} {Q : Rs → Sg → Prop} : Wx d 141 2 ls st σ Q ↔ Lr (lget ls 0) (fun z => Wx d 141 3 ls (.inr (.inl z) :: st) σ Q) := u_aload_n d141_2
theorem d141_3 : decode (mB 141) 3 = .ok (.invokevirtual 56, 3) := by decide +kernel
theorem u141_3 {d : Nat} {ls : Lo} {st : List Va} {σ : Sg} {Q : Rs → Sg → Prop} {g j : Nat} : Wx (d + 1) 141 3 ls (vr g j :: st) σ Q ↔ (isO g j 0 ∧ st.length ≤ 4 ∧ nlg [] = true) ∧ Wm d 11 [vr g j] σ (Kc (d + 1) 141 6 ls st Q) := u_inv0 d141_3 rfl rfl rfl
theorem d141_6 : decode (mB 141) 6 = .ok (.i2l, 1) := by decide +kernel
theorem u141_6 {d : Nat} {ls : Lo} {st : List Va} {σ : Sg} {Q : Rs → Sg → Prop} {a : Int} (h : -2147483648 ≤ a ∧ a ≤ 2147483647) : Wx d 141 6 ls (vi a :: st) σ Q ↔ Wx d 141 7 ls (vl a :: st) σ Q := u_i2l d141_6 h
theorem d141_7 : decode (mB 141) 7 = .ok (.lastore, 1) := by decide +kernel
theorem u141_7 {d : Nat} {ls : Lo} {st : List Va} {σ : Sg} {Q : Rs → Sg → Prop} {x z : Int} {g j : Nat} : Wx d 141 7 ls (vl x :: vi z :: vr g j :: st) σ Q ↔ isA g j 4 z ∧ Wx d 141 8 ls st (up σ g j z.toNat x) Q := u_last d141_7
theorem d141_8 : decode (mB 141) 8 = .ok (.goto 6, 3) := by decide +kernel
theorem u141_8 {d : Nat} {ls : Lo} {st : List Va} {σ : Sg} {Q : Rs → Sg → Prop} : Wx d 141 8 ls st σ Q ↔ Wx d 141 14 ls st σ Q := u_goto d141_8 (by decide)
theorem d141_11 : decode (mB 141) 11 = .ok (.astore_n 2, 1) := by decide +kernel
theorem u141_11 {d : Nat} {ls : Lo} {st : List Va} {σ : Sg} {Q : Rs → Sg → Prop} {g j : Nat} : Wx d 141 11 ls (vr g j :: st) σ Q ↔ Wx d 141 12 (lset ls 2 (vr g j)) st σ Q := u_astore_n d141_11 (by decide)
theorem d141_12 : decode (mB 141) 12 = .ok (.iconst 1, 1) := by decide +kernel
theorem u141_12 {d : Nat} {ls : Lo} {st : List Va} {σ : Sg} {Q : Rs → Sg → Prop} : Wx d 141 12 ls st σ Q ↔ Wx d 141 13 ls (vi 1 :: st) σ Q := u_iconst d141_12
theorem d141_13 : decode (mB 141) 13 = .ok (.ireturn, 1) := by decide +kernel
theorem u141_13 {d : Nat} {ls : Lo} {σ : Sg} {Q : Rs → Sg → Prop} {z : Int} : Wx d 141 13 ls [vi z] σ Q ↔ Q (.inl (some (vi z))) σ := u_iret d141_13 rfl
theorem d141_14 : decode (mB 141) 14 = .ok (.iconst 0, 1) := by decide +kernel
theorem u141_14 {d : Nat} {ls : Lo} {st : List Va} {σ : Sg} {Q : Rs → Sg → Prop} : Wx d 141 14 ls st σ Q ↔ Wx d 141 15 ls (vi 0 :: st) σ Q := u_iconst d141_14
theorem d141_15 : decode (mB 141) 15 = .ok (.ireturn, 1) := by decide +kernel
theorem u141_15 {d : Nat} {ls : Lo} {σ : Sg} {Q : Rs → Sg → Prop} {z : Int} : Wx d 141 15 ls [vi z] σ Q ↔ Q (.inl (some (vi z))) σ := u_iret d141_15 rfl
/-! 142: FiguredBassLaw.fault(LFiguredBass;II[J)I -/
theorem d142_0 : decode (mB 142) 0 = .ok (.aload_n 3, 1) := by decide +kernel
theorem u142_0 {d : Nat} {ls : Lo} {st : List Va} {σ : Sg} {Q : Rs → Sg → Prop} : Wx d 142 0 ls st σ Q ↔ Lr (lget ls 3) (fun z => Wx d 142 1 ls (.inr (.inl z) :: st) σ Q) := u_aload_n d142_0
theorem d142_1 : decode (mB 142) 1 = .ok (.iconst 0, 1) := by decide +kernel
theorem u142_1 {d : Nat} {ls : Lo} {st : List Va} {σ : Sg} {Q : Rs → Sg → Prop} : Wx d 142 1 ls st σ Q ↔ Wx d 142 2 ls (vi 0 :: st) σ Q := u_iconst d142_1
theorem d142_2 : decode (mB 142) 2 = .ok (.aload_n 0, 1) := by decide +kernel
theorem u142_2 {d : Nat} {ls : Lo} {st : List Va} {σ : Sg} {Q : Rs → Sg → Prop} : Wx d 142 2 ls st σ Q ↔ Lr (lget ls 0) (fun z => Wx d 142 3 ls (.inr (.inl z) :: st) σ Q) := u_aload_n d142_2
theorem d142_3 : decode (mB 142) 3 = .ok (.iload_n 1, 1) := by decide +kernel
theorem u142_3 {d : Nat} {ls : Lo} {st : List Va} {σ : Sg} {Q : Rs → Sg → Prop} : Wx d 142 3 ls st σ Q ↔ Li (lget ls 1) (fun z => Wx d 142 4 ls (vi z :: st) σ Q) := u_iload_n d142_3
theorem d142_4 : decode (mB 142) 4 = .ok (.iload_n 2, 1) := by decide +kernel
theorem u142_4 {d : Nat} {ls : Lo} {st : List Va} {σ : Sg} {Q : Rs → Sg → Prop} : Wx d 142 4 ls st σ Q ↔ Li (lget ls 2) (fun z => Wx d 142 5 ls (vi z :: st) σ Q) := u_iload_n d142_4
theorem d142_5 : decode (mB 142) 5 = .ok (.invokevirtual 59, 3) := by decide +kernel
theorem u142_5 {d : Nat} {ls : Lo} {st : List Va} {σ : Sg} {Q : Rs → Sg → Prop} {g j : Nat} {a1 a2 : Va} : Wx (d + 1) 142 5 ls (a2 :: a1 :: vr g j :: st) σ Q ↔ (isO g j 0 ∧ st.length ≤ 4 ∧ nlg [a2, a1] = true) ∧ Wm d 12 [vr g j, a1, a2] σ (Kc (d + 1) 142 8 ls st Q) := u_inv2 d142_5 rfl rfl rfl
theorem d142_8 : decode (mB 142) 8 = .ok (.i2l, 1) := by decide +kernel
theorem u142_8 {d : Nat} {ls : Lo} {st : List Va} {σ : Sg} {Q : Rs → Sg → Prop} {a : Int} (h : -2147483648 ≤ a ∧ a ≤ 2147483647) : Wx d 142 8 ls (vi a :: st) σ Q ↔ Wx d 142 9 ls (vl a :: st) σ Q := u_i2l d142_8 h
theorem d142_9 : decode (mB 142) 9 = .ok (.lastore, 1) := by decide +kernel
theorem u142_9 {d : Nat} {ls : Lo} {st : List Va} {σ : Sg} {Q : Rs → Sg → Prop} {x z : Int} {g j : Nat} : Wx d 142 9 ls (vl x :: vi z :: vr g j :: st) σ Q ↔ isA g j 4 z ∧ Wx d 142 10 ls st (up σ g j z.toNat x) Q := u_last d142_9
theorem d142_10 : decode (mB 142) 10 = .ok (.goto 11, 3) := by decide +kernel
theorem u142_10 {d : Nat} {ls : Lo} {st : List Va} {σ : Sg} {Q : Rs → Sg → Prop} : Wx d 142 10 ls st σ Q ↔ Wx d 142 21 ls st σ Q := u_goto d142_10 (by decide)
theorem d142_13 : decode (mB 142) 13 = .ok (.astore 4, 2) := by decide +kernel
theorem u142_13 {d : Nat} {ls : Lo} {st : List Va} {σ : Sg} {Q : Rs → Sg → Prop} {g j : Nat} : Wx d 142 13 ls (vr g j :: st) σ Q ↔ Wx d 142 15 (lset ls 4 (vr g j)) st σ Q := u_astore d142_13 (by decide)
theorem d142_15 : decode (mB 142) 15 = .ok (.iconst 1, 1) := by decide +kernel
theorem u142_15 {d : Nat} {ls : Lo} {st : List Va} {σ : Sg} {Q : Rs → Sg → Prop} : Wx d 142 15 ls st σ Q ↔ Wx d 142 16 ls (vi 1 :: st) σ Q := u_iconst d142_15
theorem d142_16 : decode (mB 142) 16 = .ok (.ireturn, 1) := by decide +kernel
theorem u142_16 {d : Nat} {ls : Lo} {σ : Sg} {Q : Rs → Sg → Prop} {z : Int} : Wx d 142 16 ls [vi z] σ Q ↔ Q (.inl (some (vi z))) σ := u_iret d142_16 rfl
theorem d142_17 : decode (mB 142) 17 = .ok (.astore 4, 2) := by decide +kernel
theorem u142_17 {d : Nat} {ls : Lo} {st : List Va} {σ : Sg} {Q : Rs → Sg → Prop} {g j : Nat} : Wx d 142 17 ls (vr g j :: st) σ Q ↔ Wx d 142 19 (lset ls 4 (vr g j)) st σ Q := u_astore d142_17 (by decide)
theorem d142_19 : decode (mB 142) 19 = .ok (.iconst 2, 1) := by decide +kernel
theorem u142_19 {d : Nat} {ls : Lo} {st : List Va} {σ : Sg} {Q : Rs → Sg → Prop} : Wx d 142 19 ls st σ Q ↔ Wx d 142 20 ls (vi 2 :: st) σ Q := u_iconst d142_19
theorem d142_20 : decode (mB 142) 20 = .ok (.ireturn, 1) := by decide +kernel
theorem u142_20 {d : Nat} {ls : Lo} {σ : Sg} {Q : Rs → Sg → Prop} {z : Int} : Wx d 142 20 ls [vi z] σ Q ↔ Q (.inl (some (vi z))) σ := u_iret d142_20 rfl
theorem d142_21 : decode (mB 142) 21 = .ok (.iconst 0, 1) := by decide +kernel
theorem u142_21 {d : Nat} {ls : Lo} {st : List Va} {σ : Sg} {Q : Rs → Sg → Prop} : Wx d 142 21 ls st σ Q ↔ Wx d 142 22 ls (vi 0 :: st) σ Q := u_iconst d142_21
theorem d142_22 : decode (mB 142) 22 = .ok (.ireturn, 1) := by decide +kernel
theorem u142_22 {d : Nat} {ls : Lo} {σ : Sg} {Q : Rs → Sg → Prop} {z : Int} : Wx d 142 22 ls [vi z] σ Q ↔ Q (.inl (some (vi z))) σ := u_iret d142_22 rfl
theorem e130 {d : Nat} {σ : Sg} {Q : Rs → Sg → Prop} {a0 a1 a2 : Va} : Wm d 130 [a0, a1, a2] σ Q ↔ Wx d 130 0 [some a0, some a1, some a2, none] [] σ Q := Iff.rfl
theorem e131 {d : Nat} {σ : Sg} {Q : Rs → Sg → Prop} {a0 a1 : Va} : Wm d 131 [a0, a1] σ Q ↔ Wx d 131 0 [some a0, some a1, none] [] σ Q := Iff.rfl
theorem e132 {d : Nat} {σ : Sg} {Q : Rs → Sg → Prop} {a0 a1 a2 a3 a4 a5 : Va} : Wm d 132 [a0, a1, a2, a3, a4, a5] σ Q ↔ Wx d 132 0 [some a0, some a1, some a2, some a3, some a4, some a5, none] [] σ Q := Iff.rfl
theorem e133 {d : Nat} {σ : Sg} {Q : Rs → Sg → Prop} {a0 a1 a2 a3 a4 : Va} : Wm d 133 [a0, a1, a2, a3, a4] σ Q ↔ Wx d 133 0 [some a0, some a1, some a2, some a3, some a4, none] [] σ Q := Iff.rfl
theorem e134 {d : Nat} {σ : Sg} {Q : Rs → Sg → Prop} {a0 a1 a2 a3 : Va} : Wm d 134 [a0, a1, a2, a3] σ Q ↔ Wx d 134 0 [some a0, some a1, some a2, some a3, none] [] σ Q := Iff.rfl
theorem e135 {d : Nat} {σ : Sg} {Q : Rs → Sg → Prop} {a0 a1 a2 : Va} : Wm d 135 [a0, a1, a2] σ Q ↔ Wx d 135 0 [some a0, some a1, some a2, none] [] σ Q := Iff.rfl
theorem e136 {d : Nat} {σ : Sg} {Q : Rs → Sg → Prop} {a0 a1 a2 a3 a4 : Va} : Wm d 136 [a0, a1, a2, a3, a4] σ Q ↔ Wx d 136 0 [some a0, some a1, some a2, some a3, some a4, none] [] σ Q := Iff.rfl
theorem e137 {d : Nat} {σ : Sg} {Q : Rs → Sg → Prop} {a0 a1 : Va} : Wm d 137 [a0, a1] σ Q ↔ Wx d 137 0 [some a0, some a1, none] [] σ Q := Iff.rfl
theorem e138 {d : Nat} {σ : Sg} {Q : Rs → Sg → Prop} {a0 a1 a2 a3 : Va} : Wm d 138 [a0, a1, a2, a3] σ Q ↔ Wx d 138 0 [some a0, some a1, some a2, some a3, none] [] σ Q := Iff.rfl
theorem e139 {d : Nat} {σ : Sg} {Q : Rs → Sg → Prop} {a0 a1 a2 : Va} : Wm d 139 [a0, a1, a2] σ Q ↔ Wx d 139 0 [some a0, some a1, some a2, none] [] σ Q := Iff.rfl
theorem e140 {d : Nat} {σ : Sg} {Q : Rs → Sg → Prop} {a0 a1 a2 a3 : Va} : Wm d 140 [a0, a1, a2, a3] σ Q ↔ Wx d 140 0 [some a0, some a1, some a2, some a3, none] [] σ Q := Iff.rfl
theorem e141 {d : Nat} {σ : Sg} {Q : Rs → Sg → Prop} {a0 a1 : Va} : Wm d 141 [a0, a1] σ Q ↔ Wx d 141 0 [some a0, some a1, none] [] σ Q := Iff.rfl
theorem e142 {d : Nat} {σ : Sg} {Q : Rs → Sg → Prop} {a0 a1 a2 a3 : Va} : Wm d 142 [a0, a1, a2, a3] σ Q ↔ Wx d 142 0 [some a0, some a1, some a2, some a3, none] [] σ Q := Iff.rfl
